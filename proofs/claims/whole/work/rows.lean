section
-- ===== PART A: goes FIRST, ahead of the names: the tables' words, and 'selects' of the private methods out of them =====
/-- a private method of a class that the tables say can be made, by its rows of tables_1 -/
def lw_okq (q : MethodName × Nat) : Prop := (q.1.cls ≠ "java/lang/invoke/MethodHandle" ∧ q.1.cls ≠ "java/lang/invoke/VarHandle") ∧ Cond.instantiable q.1.cls q.2 ∈ tables_1 ∧ Cond.privateMethod q.1 ∈ tables_1 ∧ Cond.instanceMethod q.1 ∈ tables_1
theorem lw_p0 : lw_okq (⟨"BitBoard$Row", "bitsFrom", "(I)J"⟩, 1) := ⟨⟨by decide +kernel, by decide +kernel⟩, List.mem_of_getElem? (i := 17) (by decide +kernel), List.mem_of_getElem? (i := 147) (by decide +kernel), List.mem_of_getElem? (i := 148) (by decide +kernel)⟩
theorem lw_p1 : lw_okq (⟨"BitBoard$Signs", "add", "(C)V"⟩, 2) := ⟨⟨by decide +kernel, by decide +kernel⟩, List.mem_of_getElem? (i := 28) (by decide +kernel), List.mem_of_getElem? (i := 210) (by decide +kernel), List.mem_of_getElem? (i := 211) (by decide +kernel)⟩
theorem lw_p2 : lw_okq (⟨"BitBoard$Signs", "addPlace", "(I)V"⟩, 2) := ⟨⟨by decide +kernel, by decide +kernel⟩, List.mem_of_getElem? (i := 28) (by decide +kernel), List.mem_of_getElem? (i := 215) (by decide +kernel), List.mem_of_getElem? (i := 216) (by decide +kernel)⟩
theorem lw_p3 : lw_okq (⟨"BitBoard$Signs", "addDigit", "(I)V"⟩, 2) := ⟨⟨by decide +kernel, by decide +kernel⟩, List.mem_of_getElem? (i := 28) (by decide +kernel), List.mem_of_getElem? (i := 219) (by decide +kernel), List.mem_of_getElem? (i := 220) (by decide +kernel)⟩
theorem lw_p4 : lw_okq (⟨"BitBoardModel", "ones", "(I)I"⟩, 4) := ⟨⟨by decide +kernel, by decide +kernel⟩, List.mem_of_getElem? (i := 235) (by decide +kernel), List.mem_of_getElem? (i := 278) (by decide +kernel), List.mem_of_getElem? (i := 279) (by decide +kernel)⟩
theorem lw_p5 : lw_okq (⟨"BitBoardModel", "end", "(I)I"⟩, 4) := ⟨⟨by decide +kernel, by decide +kernel⟩, List.mem_of_getElem? (i := 235) (by decide +kernel), List.mem_of_getElem? (i := 306) (by decide +kernel), List.mem_of_getElem? (i := 307) (by decide +kernel)⟩
theorem lw_p6 : lw_okq (⟨"BitBoardModel", "write", "(I)V"⟩, 4) := ⟨⟨by decide +kernel, by decide +kernel⟩, List.mem_of_getElem? (i := 235) (by decide +kernel), List.mem_of_getElem? (i := 336) (by decide +kernel), List.mem_of_getElem? (i := 337) (by decide +kernel)⟩
def lw_privs_1 : List (MethodName × Nat) := [(⟨"BitBoard$Row", "bitsFrom", "(I)J"⟩, 1), (⟨"BitBoard$Signs", "add", "(C)V"⟩, 2), (⟨"BitBoard$Signs", "addPlace", "(I)V"⟩, 2), (⟨"BitBoard$Signs", "addDigit", "(I)V"⟩, 2), (⟨"BitBoardModel", "ones", "(I)I"⟩, 4), (⟨"BitBoardModel", "end", "(I)I"⟩, 4), (⟨"BitBoardModel", "write", "(I)V"⟩, 4)]
theorem lw_r1 : ∀ q ∈ lw_privs_1, lw_okq q := List.forall_mem_cons.mpr ⟨lw_p0, List.forall_mem_cons.mpr ⟨lw_p1, List.forall_mem_cons.mpr ⟨lw_p2, List.forall_mem_cons.mpr ⟨lw_p3, List.forall_mem_cons.mpr ⟨lw_p4, List.forall_mem_cons.mpr ⟨lw_p5, List.forall_mem_cons.mpr ⟨lw_p6, fun _ h => absurd h List.not_mem_nil⟩⟩⟩⟩⟩⟩⟩
def lw_privs : List (MethodName × Nat) := lw_privs_1
def lw_tbl : List Cond := k2_sels lw_privs ++ tables_1
theorem lw_privs_ok : ∀ q ∈ lw_privs, lw_okq q := lw_r1
end
section
def RX0 : String := "BitBoard$Row"
def RX1 : String := "BitBoard$Signs"
def RX2 : String := "BitBoard"
def RX3 : String := "BitBoardModel"
def RJ6 : String := "java/lang/Integer"
def RJ7 : String := "java/lang/Long"
def RL : String := "BitBoardLaw"
def TX0 : u_T := fun k => match k with
  | _ => ("BitBoard$Row", "words", "[J", true)
def tyX0 : Nat → FieldType := fun k => match k with
  | _ => .array .long
theorem nmX0 : ∀ a, a < 1 → ∀ b, b < 1 → a ≠ b → (TX0 a).2.1 ≠ (TX0 b).2.1 := by decide +kernel
theorem tyX0_ok : ∀ k, k < 1 → parseFieldDescriptor (TX0 k).2.2.1 = some (tyX0 k) := by decide +kernel
theorem inX0 : ∀ w ∈ u_ws RX0 TX0 1, w ∈ lw_tbl := by decide +kernel
def TX1 : u_T := fun k => match k with
  | 0 => ("BitBoard$Signs", "signs", "[C", true)
  | _ => ("BitBoard$Signs", "length", "I", false)
def tyX1 : Nat → FieldType := fun k => match k with
  | 0 => .array .char
  | _ => .int
theorem nmX1 : ∀ a, a < 2 → ∀ b, b < 2 → a ≠ b → (TX1 a).2.1 ≠ (TX1 b).2.1 := by decide +kernel
theorem tyX1_ok : ∀ k, k < 2 → parseFieldDescriptor (TX1 k).2.2.1 = some (tyX1 k) := by decide +kernel
theorem inX1 : ∀ w ∈ u_ws RX1 TX1 2, w ∈ lw_tbl := by decide +kernel
def TX2 : u_T := fun k => match k with
  | 0 => ("BitBoard", "rows", "[LBitBoard$Row;", true)
  | _ => ("BitBoard", "latest", "LBitBoard$Signs;", true)
def tyX2 : Nat → FieldType := fun k => match k with
  | 0 => .array (.object "BitBoard$Row")
  | _ => .object "BitBoard$Signs"
theorem nmX2 : ∀ a, a < 2 → ∀ b, b < 2 → a ≠ b → (TX2 a).2.1 ≠ (TX2 b).2.1 := by decide +kernel
theorem tyX2_ok : ∀ k, k < 2 → parseFieldDescriptor (TX2 k).2.2.1 = some (tyX2 k) := by decide +kernel
theorem inX2 : ∀ w ∈ u_ws RX2 TX2 2, w ∈ lw_tbl := by decide +kernel
def TX3 : u_T := fun k => match k with
  | 0 => ("BitBoardModel", "rows", "[[Z", true)
  | 1 => ("BitBoardModel", "piece", "[Z", true)
  | 2 => ("BitBoardModel", "signs", "[B", true)
  | _ => ("BitBoardModel", "signCount", "I", false)
def tyX3 : Nat → FieldType := fun k => match k with
  | 0 => .array (.array .boolean)
  | 1 => .array .boolean
  | 2 => .array .byte
  | _ => .int
theorem nmX3 : ∀ a, a < 4 → ∀ b, b < 4 → a ≠ b → (TX3 a).2.1 ≠ (TX3 b).2.1 := by decide +kernel
theorem tyX3_ok : ∀ k, k < 4 → parseFieldDescriptor (TX3 k).2.2.1 = some (tyX3 k) := by decide +kernel
theorem inX3 : ∀ w ∈ u_ws RX3 TX3 4, w ∈ lw_tbl := by decide +kernel
abbrev bwCl : List vw_C := [(RX0, TX0, 1), (RX1, TX1, 2), (RX2, TX2, 2), (RX3, TX3, 4)]
abbrev cX2_init : ByteArray := prog_1_method_1_code
def yX2_init : MethodName := ⟨RX2, "<init>", "()V"⟩
abbrev cX0_init : ByteArray := prog_2_method_1_code
def yX0_init : MethodName := ⟨RX0, "<init>", "()V"⟩
abbrev cX1_init : ByteArray := prog_3_method_1_code
def yX1_init : MethodName := ⟨RX1, "<init>", "()V"⟩
abbrev cX2_set : ByteArray := prog_1_method_2_code
def yX2_set : MethodName := ⟨RX2, "set", "(III)I"⟩
abbrev cX2_isRow : ByteArray := prog_1_method_17_code
def yX2_isRow : MethodName := ⟨RX2, "isRow", "(I)Z"⟩
abbrev cX2_isChange : ByteArray := prog_1_method_20_code
def yX2_isChange : MethodName := ⟨RX2, "isChange", "(I)Z"⟩
abbrev cX2_isPlace : ByteArray := prog_1_method_18_code
def yX2_isPlace : MethodName := ⟨RX2, "isPlace", "(I)Z"⟩
abbrev cX0_bit : ByteArray := prog_2_method_3_code
def yX0_bit : MethodName := ⟨RX0, "bit", "(I)I"⟩
abbrev cX0_wordAt : ByteArray := prog_2_method_2_code
def yX0_wordAt : MethodName := ⟨RX0, "wordAt", "(I)J"⟩
abbrev cX0_change : ByteArray := prog_2_method_6_code
def yX0_change : MethodName := ⟨RX0, "change", "(III)V"⟩
abbrev cX0_lowBits : ByteArray := prog_2_method_16_code
def yX0_lowBits : MethodName := ⟨RX0, "lowBits", "(I)J"⟩
abbrev cX0_changed : ByteArray := prog_2_method_17_code
def yX0_changed : MethodName := ⟨RX0, "changed", "(JIJ)J"⟩
abbrev cX2_piece : ByteArray := prog_1_method_3_code
def yX2_piece : MethodName := ⟨RX2, "piece", "(IIII)I"⟩
abbrev cX2_isPiece : ByteArray := prog_1_method_19_code
def yX2_isPiece : MethodName := ⟨RX2, "isPiece", "(II)Z"⟩
abbrev cX0_ones : ByteArray := prog_2_method_4_code
def yX0_ones : MethodName := ⟨RX0, "ones", "()I"⟩
abbrev cJ7_bitCount : ByteArray := prog_7_method_50_code
def yJ7_bitCount : MethodName := ⟨RJ7, "bitCount", "(J)I"⟩
abbrev cX2_get : ByteArray := prog_1_method_4_code
def yX2_get : MethodName := ⟨RX2, "get", "(II)I"⟩
abbrev cX2_next : ByteArray := prog_1_method_5_code
def yX2_next : MethodName := ⟨RX2, "next", "(III)I"⟩
abbrev cX0_firstFrom : ByteArray := prog_2_method_7_code
def yX0_firstFrom : MethodName := ⟨RX0, "firstFrom", "(IJ)I"⟩
abbrev cJ7_numberOfTrailingZeros : ByteArray := prog_7_method_49_code
def yJ7_numberOfTrailingZeros : MethodName := ⟨RJ7, "numberOfTrailingZeros", "(J)I"⟩
abbrev cJ6_numberOfTrailingZeros : ByteArray := prog_6_method_48_code
def yJ6_numberOfTrailingZeros : MethodName := ⟨RJ6, "numberOfTrailingZeros", "(I)I"⟩
abbrev cX0_lastUpTo : ByteArray := prog_2_method_8_code
def yX0_lastUpTo : MethodName := ⟨RX0, "lastUpTo", "(IJ)I"⟩
abbrev cJ7_numberOfLeadingZeros : ByteArray := prog_7_method_48_code
def yJ7_numberOfLeadingZeros : MethodName := ⟨RJ7, "numberOfLeadingZeros", "(J)I"⟩
abbrev cJ6_numberOfLeadingZeros : ByteArray := prog_6_method_47_code
def yJ6_numberOfLeadingZeros : MethodName := ⟨RJ6, "numberOfLeadingZeros", "(I)I"⟩
abbrev cX2_join : ByteArray := prog_1_method_6_code
def yX2_join : MethodName := ⟨RX2, "join", "(III)I"⟩
abbrev cX0_combine : ByteArray := prog_2_method_9_code
def yX0_combine : MethodName := ⟨RX0, "combine", "(ILBitBoard$Row;)V"⟩
abbrev cX0_combined : ByteArray := prog_2_method_18_code
def yX0_combined : MethodName := ⟨RX0, "combined", "(JIJ)J"⟩
abbrev cX2_cut : ByteArray := prog_1_method_7_code
def yX2_cut : MethodName := ⟨RX2, "cut", "(IIII)I"⟩
abbrev cX0_takePiece : ByteArray := prog_2_method_10_code
def yX0_takePiece : MethodName := ⟨RX0, "takePiece", "(LBitBoard$Row;II)V"⟩
abbrev cX0_bitsFrom : ByteArray := prog_2_method_15_code
def yX0_bitsFrom : MethodName := ⟨RX0, "bitsFrom", "(I)J"⟩
abbrev cX2_copy : ByteArray := prog_1_method_8_code
def yX2_copy : MethodName := ⟨RX2, "copy", "(II)I"⟩
abbrev cX2_look : ByteArray := prog_1_method_9_code
def yX2_look : MethodName := ⟨RX2, "look", "(II)I"⟩
abbrev cX0_end : ByteArray := prog_2_method_5_code
def yX0_end : MethodName := ⟨RX0, "end", "()I"⟩
abbrev cX2_meet : ByteArray := prog_1_method_10_code
def yX2_meet : MethodName := ⟨RX2, "meet", "(III)I"⟩
abbrev cX0_sharesOne : ByteArray := prog_2_method_12_code
def yX0_sharesOne : MethodName := ⟨RX0, "sharesOne", "(LBitBoard$Row;)Z"⟩
abbrev cX0_isSame : ByteArray := prog_2_method_13_code
def yX0_isSame : MethodName := ⟨RX0, "isSame", "(LBitBoard$Row;)Z"⟩
abbrev cX2_word : ByteArray := prog_1_method_11_code
def yX2_word : MethodName := ⟨RX2, "word", "(II)J"⟩
abbrev cX2_load : ByteArray := prog_1_method_12_code
def yX2_load : MethodName := ⟨RX2, "load", "(IJJJ)I"⟩
abbrev cX0_takeWords : ByteArray := prog_2_method_11_code
def yX0_takeWords : MethodName := ⟨RX0, "takeWords", "(JJJ)V"⟩
abbrev cX2_walk : ByteArray := prog_1_method_13_code
def yX2_walk : MethodName := ⟨RX2, "walk", "(I)J"⟩
abbrev cX0_rankedSum : ByteArray := prog_2_method_14_code
def yX0_rankedSum : MethodName := ⟨RX0, "rankedSum", "()J"⟩
abbrev cX2_clear : ByteArray := prog_1_method_14_code
def yX2_clear : MethodName := ⟨RX2, "clear", "(I)I"⟩
abbrev cX2_text : ByteArray := prog_1_method_15_code
def yX2_text : MethodName := ⟨RX2, "text", "(I)I"⟩
abbrev cX1_write : ByteArray := prog_3_method_4_code
def yX1_write : MethodName := ⟨RX1, "write", "(LBitBoard$Row;)V"⟩
abbrev cX1_add : ByteArray := prog_3_method_7_code
def yX1_add : MethodName := ⟨RX1, "add", "(C)V"⟩
abbrev cX1_addPlace : ByteArray := prog_3_method_5_code
def yX1_addPlace : MethodName := ⟨RX1, "addPlace", "(I)V"⟩
abbrev cX1_addDigit : ByteArray := prog_3_method_6_code
def yX1_addDigit : MethodName := ⟨RX1, "addDigit", "(I)V"⟩
abbrev cX1_length : ByteArray := prog_3_method_2_code
def yX1_length : MethodName := ⟨RX1, "length", "()I"⟩
abbrev cX2_octet : ByteArray := prog_1_method_16_code
def yX2_octet : MethodName := ⟨RX2, "octet", "(I)I"⟩
abbrev cX1_codeAt : ByteArray := prog_3_method_3_code
def yX1_codeAt : MethodName := ⟨RX1, "codeAt", "(I)I"⟩
abbrev cX3_init : ByteArray := prog_5_method_1_code
def yX3_init : MethodName := ⟨RX3, "<init>", "()V"⟩
abbrev cX3_set : ByteArray := prog_5_method_7_code
def yX3_set : MethodName := ⟨RX3, "set", "(III)I"⟩
abbrev cX3_isRow : ByteArray := prog_5_method_2_code
def yX3_isRow : MethodName := ⟨RX3, "isRow", "(I)Z"⟩
abbrev cX3_isPlace : ByteArray := prog_5_method_3_code
def yX3_isPlace : MethodName := ⟨RX3, "isPlace", "(I)Z"⟩
abbrev cX3_changed : ByteArray := prog_5_method_6_code
def yX3_changed : MethodName := ⟨RX3, "changed", "(ZI)Z"⟩
abbrev cX3_piece : ByteArray := prog_5_method_8_code
def yX3_piece : MethodName := ⟨RX3, "piece", "(IIII)I"⟩
abbrev cX3_isPiece : ByteArray := prog_5_method_4_code
def yX3_isPiece : MethodName := ⟨RX3, "isPiece", "(II)Z"⟩
abbrev cX3_ones : ByteArray := prog_5_method_5_code
def yX3_ones : MethodName := ⟨RX3, "ones", "(I)I"⟩
abbrev cX3_get : ByteArray := prog_5_method_9_code
def yX3_get : MethodName := ⟨RX3, "get", "(II)I"⟩
abbrev cX3_next : ByteArray := prog_5_method_10_code
def yX3_next : MethodName := ⟨RX3, "next", "(III)I"⟩
abbrev cX3_join : ByteArray := prog_5_method_11_code
def yX3_join : MethodName := ⟨RX3, "join", "(III)I"⟩
abbrev cX3_cut : ByteArray := prog_5_method_12_code
def yX3_cut : MethodName := ⟨RX3, "cut", "(IIII)I"⟩
abbrev cX3_copy : ByteArray := prog_5_method_13_code
def yX3_copy : MethodName := ⟨RX3, "copy", "(II)I"⟩
abbrev cX3_look : ByteArray := prog_5_method_15_code
def yX3_look : MethodName := ⟨RX3, "look", "(II)I"⟩
abbrev cX3_end : ByteArray := prog_5_method_14_code
def yX3_end : MethodName := ⟨RX3, "end", "(I)I"⟩
abbrev cX3_meet : ByteArray := prog_5_method_16_code
def yX3_meet : MethodName := ⟨RX3, "meet", "(III)I"⟩
abbrev cX3_word : ByteArray := prog_5_method_17_code
def yX3_word : MethodName := ⟨RX3, "word", "(II)J"⟩
abbrev cX3_load : ByteArray := prog_5_method_18_code
def yX3_load : MethodName := ⟨RX3, "load", "(IJJJ)I"⟩
abbrev cX3_walk : ByteArray := prog_5_method_19_code
def yX3_walk : MethodName := ⟨RX3, "walk", "(I)J"⟩
abbrev cX3_clear : ByteArray := prog_5_method_20_code
def yX3_clear : MethodName := ⟨RX3, "clear", "(I)I"⟩
abbrev cX3_text : ByteArray := prog_5_method_22_code
def yX3_text : MethodName := ⟨RX3, "text", "(I)I"⟩
abbrev cX3_write : ByteArray := prog_5_method_21_code
def yX3_write : MethodName := ⟨RX3, "write", "(I)V"⟩
abbrev cX3_octet : ByteArray := prog_5_method_23_code
def yX3_octet : MethodName := ⟨RX3, "octet", "(I)I"⟩
abbrev cL_law : ByteArray := code
def tg_ : List Cond := lw_tbl.filter goodWord
theorem tg_in {w : Cond} (h : w ∈ lw_tbl) (g : goodWord w = true) : w ∈ tg_ := List.mem_filter.mpr ⟨h, g⟩
theorem tg_good {w : Cond} (h : w ∈ tg_) : goodWord w = true := (List.mem_filter.mp h).2
theorem tg_tbl {w : Cond} (h : w ∈ tg_) : w ∈ lw_tbl := (List.mem_filter.mp h).1
theorem tw_0 : (.initialized RL : Cond) ∈ tg_ := tg_in (List.mem_of_getElem? (i := 7) (by decide +kernel)) rfl
theorem tw_1 : (.initialized RX2 : Cond) ∈ tg_ := tg_in (List.mem_of_getElem? (i := 8) (by decide +kernel)) rfl
theorem tw_2 : (.initialized RX0 : Cond) ∈ tg_ := tg_in (List.mem_of_getElem? (i := 9) (by decide +kernel)) rfl
theorem tw_3 : (.initialized RX1 : Cond) ∈ tg_ := tg_in (List.mem_of_getElem? (i := 10) (by decide +kernel)) rfl
theorem tw_4 : (.initialized RX3 : Cond) ∈ tg_ := tg_in (List.mem_of_getElem? (i := 11) (by decide +kernel)) rfl
theorem tw_5 : (.initialized RJ7 : Cond) ∈ tg_ := tg_in (List.mem_of_getElem? (i := 12) (by decide +kernel)) rfl
theorem tw_6 : (.initialized RJ6 : Cond) ∈ tg_ := tg_in (List.mem_of_getElem? (i := 13) (by decide +kernel)) rfl
theorem tw_7 : (.classLink RL 7 RX2 : Cond) ∈ tg_ := tg_in (List.mem_of_getElem? (i := 14) (by decide +kernel)) rfl
theorem tw_8 : (.instantiable RX2 2 : Cond) ∈ tg_ := tg_in (List.mem_of_getElem? (i := 15) (by decide +kernel)) rfl
theorem tw_9 : (.methodLink RL 9 yX2_init : Cond) ∈ tg_ := tg_in (List.mem_of_getElem? (i := 16) (by decide +kernel)) rfl
theorem tw_10 : (.instanceMethod yX2_init : Cond) ∈ tg_ := tg_in (List.mem_of_getElem? (i := 17) (by decide +kernel)) rfl
theorem tw_11 : (.code yX2_init cX2_init 2 none : Cond) ∈ tg_ := tg_in (List.mem_of_getElem? (i := 18) rfl) rfl
theorem tw_12 : (.methodLink RX2 1 objectInit : Cond) ∈ tg_ := tg_in (List.mem_of_getElem? (i := 19) (by decide +kernel)) rfl
theorem tw_13 : (.instanceMethod objectInit : Cond) ∈ tg_ := tg_in (List.mem_of_getElem? (i := 20) (by decide +kernel)) rfl
theorem tw_14 : (.code objectInit object_method_1_code 1 none : Cond) ∈ tg_ := tg_in (List.mem_of_getElem? (i := 21) rfl) rfl
theorem tw_15 : (.classLink RX2 9 RX0 : Cond) ∈ tg_ := tg_in (List.mem_of_getElem? (i := 22) (by decide +kernel)) rfl
theorem tn_16 : (.arrayOver (.object "BitBoard$Row") : Cond) ∈ lw_tbl := List.mem_of_getElem? (i := 23) (by decide +kernel)
theorem tw_17 : (.instantiable RX0 1 : Cond) ∈ tg_ := tg_in (List.mem_of_getElem? (i := 24) (by decide +kernel)) rfl
theorem tn_18 : (.methodLinkNest RX2 15 yX0_init RX2 : Cond) ∈ lw_tbl := List.mem_of_getElem? (i := 25) (by decide +kernel)
theorem tw_19 : (.instanceMethod yX0_init : Cond) ∈ tg_ := tg_in (List.mem_of_getElem? (i := 26) (by decide +kernel)) rfl
theorem tw_20 : (.code yX0_init cX0_init 1 none : Cond) ∈ tg_ := tg_in (List.mem_of_getElem? (i := 27) rfl) rfl
theorem tw_21 : (.methodLink RX0 3 objectInit : Cond) ∈ tg_ := tg_in (List.mem_of_getElem? (i := 28) (by decide +kernel)) rfl
theorem tw_22 : (.fieldLink RX0 11 "BitBoard$Row" "words" "[J" : Cond) ∈ tg_ := tg_in (List.mem_of_getElem? (i := 29) (by decide +kernel)) rfl
theorem tw_23 : (.laysFinal RX0 "BitBoard$Row" "words" "[J" : Cond) ∈ tg_ := tg_in (List.mem_of_getElem? (i := 30) (by decide +kernel)) rfl
theorem tw_26 : (.arrayClass .long : Cond) ∈ tg_ := tg_in (List.mem_of_getElem? (i := 33) (by decide +kernel)) rfl
theorem tw_27 : (.classLink RX2 16 RX1 : Cond) ∈ tg_ := tg_in (List.mem_of_getElem? (i := 34) (by decide +kernel)) rfl
theorem tw_28 : (.instantiable RX1 2 : Cond) ∈ tg_ := tg_in (List.mem_of_getElem? (i := 35) (by decide +kernel)) rfl
theorem tn_29 : (.methodLinkNest RX2 18 yX1_init RX2 : Cond) ∈ lw_tbl := List.mem_of_getElem? (i := 36) (by decide +kernel)
theorem tw_30 : (.instanceMethod yX1_init : Cond) ∈ tg_ := tg_in (List.mem_of_getElem? (i := 37) (by decide +kernel)) rfl
theorem tw_31 : (.code yX1_init cX1_init 1 none : Cond) ∈ tg_ := tg_in (List.mem_of_getElem? (i := 38) rfl) rfl
theorem tw_32 : (.methodLink RX1 3 objectInit : Cond) ∈ tg_ := tg_in (List.mem_of_getElem? (i := 39) (by decide +kernel)) rfl
theorem tw_33 : (.fieldLink RX1 11 "BitBoard$Signs" "signs" "[C" : Cond) ∈ tg_ := tg_in (List.mem_of_getElem? (i := 40) (by decide +kernel)) rfl
theorem tw_34 : (.fieldLink RX1 15 "BitBoard$Signs" "length" "I" : Cond) ∈ tg_ := tg_in (List.mem_of_getElem? (i := 41) (by decide +kernel)) rfl
theorem tw_35 : (.laysFinal RX1 "BitBoard$Signs" "signs" "[C" : Cond) ∈ tg_ := tg_in (List.mem_of_getElem? (i := 42) (by decide +kernel)) rfl
theorem tw_37 : (.lays RX1 "BitBoard$Signs" "length" "I" : Cond) ∈ tg_ := tg_in (List.mem_of_getElem? (i := 44) (by decide +kernel)) rfl
theorem tw_40 : (.arrayClass .char : Cond) ∈ tg_ := tg_in (List.mem_of_getElem? (i := 47) (by decide +kernel)) rfl
theorem tw_41 : (.fieldLink RX2 11 "BitBoard" "rows" "[LBitBoard$Row;" : Cond) ∈ tg_ := tg_in (List.mem_of_getElem? (i := 48) (by decide +kernel)) rfl
theorem tw_42 : (.fieldLink RX2 19 "BitBoard" "latest" "LBitBoard$Signs;" : Cond) ∈ tg_ := tg_in (List.mem_of_getElem? (i := 49) (by decide +kernel)) rfl
theorem tw_43 : (.laysFinal RX2 "BitBoard" "rows" "[LBitBoard$Row;" : Cond) ∈ tg_ := tg_in (List.mem_of_getElem? (i := 50) (by decide +kernel)) rfl
theorem tw_45 : (.laysFinal RX2 "BitBoard" "latest" "LBitBoard$Signs;" : Cond) ∈ tg_ := tg_in (List.mem_of_getElem? (i := 52) (by decide +kernel)) rfl
theorem tw_48 : (.methodLink RL 13 yX2_set : Cond) ∈ tg_ := tg_in (List.mem_of_getElem? (i := 55) (by decide +kernel)) rfl
theorem tw_49 : (.instanceMethod yX2_set : Cond) ∈ tg_ := tg_in (List.mem_of_getElem? (i := 56) (by decide +kernel)) rfl
theorem tw_50 : (.selects RX2 yX2_set yX2_set : Cond) ∈ tg_ := tg_in (List.mem_of_getElem? (i := 57) (by decide +kernel)) rfl
theorem tw_51 : (.code yX2_set cX2_set 5 (some .int) : Cond) ∈ tg_ := tg_in (List.mem_of_getElem? (i := 58) rfl) rfl
theorem tw_52 : (.methodLink RX2 23 yX2_isRow : Cond) ∈ tg_ := tg_in (List.mem_of_getElem? (i := 59) (by decide +kernel)) rfl
theorem tw_53 : (.static yX2_isRow : Cond) ∈ tg_ := tg_in (List.mem_of_getElem? (i := 60) (by decide +kernel)) rfl
theorem tw_54 : (.code yX2_isRow cX2_isRow 1 (some .boolean) : Cond) ∈ tg_ := tg_in (List.mem_of_getElem? (i := 61) rfl) rfl
theorem tw_55 : (.methodLink RX2 27 yX2_isChange : Cond) ∈ tg_ := tg_in (List.mem_of_getElem? (i := 62) (by decide +kernel)) rfl
theorem tw_56 : (.static yX2_isChange : Cond) ∈ tg_ := tg_in (List.mem_of_getElem? (i := 63) (by decide +kernel)) rfl
theorem tw_57 : (.code yX2_isChange cX2_isChange 1 (some .boolean) : Cond) ∈ tg_ := tg_in (List.mem_of_getElem? (i := 64) rfl) rfl
theorem tw_58 : (.methodLink RX2 30 yX2_isPlace : Cond) ∈ tg_ := tg_in (List.mem_of_getElem? (i := 65) (by decide +kernel)) rfl
theorem tw_59 : (.static yX2_isPlace : Cond) ∈ tg_ := tg_in (List.mem_of_getElem? (i := 66) (by decide +kernel)) rfl
theorem tw_60 : (.code yX2_isPlace cX2_isPlace 1 (some .boolean) : Cond) ∈ tg_ := tg_in (List.mem_of_getElem? (i := 67) rfl) rfl
theorem tw_61 : (.methodLink RX2 33 yX0_bit : Cond) ∈ tg_ := tg_in (List.mem_of_getElem? (i := 68) (by decide +kernel)) rfl
theorem tw_62 : (.instanceMethod yX0_bit : Cond) ∈ tg_ := tg_in (List.mem_of_getElem? (i := 69) (by decide +kernel)) rfl
theorem tw_63 : (.selects RX0 yX0_bit yX0_bit : Cond) ∈ tg_ := tg_in (List.mem_of_getElem? (i := 70) (by decide +kernel)) rfl
theorem tw_64 : (.code yX0_bit cX0_bit 2 (some .int) : Cond) ∈ tg_ := tg_in (List.mem_of_getElem? (i := 71) rfl) rfl
theorem tw_65 : (.methodLink RX0 15 yX0_wordAt : Cond) ∈ tg_ := tg_in (List.mem_of_getElem? (i := 72) (by decide +kernel)) rfl
theorem tw_66 : (.instanceMethod yX0_wordAt : Cond) ∈ tg_ := tg_in (List.mem_of_getElem? (i := 73) (by decide +kernel)) rfl
theorem tw_67 : (.selects RX0 yX0_wordAt yX0_wordAt : Cond) ∈ tg_ := tg_in (List.mem_of_getElem? (i := 74) (by decide +kernel)) rfl
theorem tw_68 : (.code yX0_wordAt cX0_wordAt 2 (some .long) : Cond) ∈ tg_ := tg_in (List.mem_of_getElem? (i := 75) rfl) rfl
theorem tw_69 : (.methodLink RX2 37 yX0_change : Cond) ∈ tg_ := tg_in (List.mem_of_getElem? (i := 76) (by decide +kernel)) rfl
theorem tw_70 : (.instanceMethod yX0_change : Cond) ∈ tg_ := tg_in (List.mem_of_getElem? (i := 77) (by decide +kernel)) rfl
theorem tw_71 : (.selects RX0 yX0_change yX0_change : Cond) ∈ tg_ := tg_in (List.mem_of_getElem? (i := 78) (by decide +kernel)) rfl
theorem tw_72 : (.code yX0_change cX0_change 7 none : Cond) ∈ tg_ := tg_in (List.mem_of_getElem? (i := 79) rfl) rfl
theorem tw_73 : (.methodLink RX0 29 yX0_lowBits : Cond) ∈ tg_ := tg_in (List.mem_of_getElem? (i := 80) (by decide +kernel)) rfl
theorem tw_74 : (.static yX0_lowBits : Cond) ∈ tg_ := tg_in (List.mem_of_getElem? (i := 81) (by decide +kernel)) rfl
theorem tw_75 : (.code yX0_lowBits cX0_lowBits 1 (some .long) : Cond) ∈ tg_ := tg_in (List.mem_of_getElem? (i := 82) rfl) rfl
theorem tw_76 : (.constantLong RX0 32 (-1) : Cond) ∈ tg_ := tg_in (List.mem_of_getElem? (i := 83) (by decide +kernel)) rfl
theorem tw_77 : (.methodLink RX0 34 yX0_changed : Cond) ∈ tg_ := tg_in (List.mem_of_getElem? (i := 84) (by decide +kernel)) rfl
theorem tw_78 : (.static yX0_changed : Cond) ∈ tg_ := tg_in (List.mem_of_getElem? (i := 85) (by decide +kernel)) rfl
theorem tw_79 : (.code yX0_changed cX0_changed 5 (some .long) : Cond) ∈ tg_ := tg_in (List.mem_of_getElem? (i := 86) rfl) rfl
theorem tw_80 : (.methodLink RL 18 yX2_piece : Cond) ∈ tg_ := tg_in (List.mem_of_getElem? (i := 87) (by decide +kernel)) rfl
theorem tw_81 : (.instanceMethod yX2_piece : Cond) ∈ tg_ := tg_in (List.mem_of_getElem? (i := 88) (by decide +kernel)) rfl
theorem tw_82 : (.selects RX2 yX2_piece yX2_piece : Cond) ∈ tg_ := tg_in (List.mem_of_getElem? (i := 89) (by decide +kernel)) rfl
theorem tw_83 : (.code yX2_piece cX2_piece 5 (some .int) : Cond) ∈ tg_ := tg_in (List.mem_of_getElem? (i := 90) rfl) rfl
theorem tw_84 : (.methodLink RX2 41 yX2_isPiece : Cond) ∈ tg_ := tg_in (List.mem_of_getElem? (i := 91) (by decide +kernel)) rfl
theorem tw_85 : (.static yX2_isPiece : Cond) ∈ tg_ := tg_in (List.mem_of_getElem? (i := 92) (by decide +kernel)) rfl
theorem tw_86 : (.code yX2_isPiece cX2_isPiece 2 (some .boolean) : Cond) ∈ tg_ := tg_in (List.mem_of_getElem? (i := 93) rfl) rfl
theorem tw_87 : (.methodLink RX2 45 yX0_ones : Cond) ∈ tg_ := tg_in (List.mem_of_getElem? (i := 94) (by decide +kernel)) rfl
theorem tw_88 : (.instanceMethod yX0_ones : Cond) ∈ tg_ := tg_in (List.mem_of_getElem? (i := 95) (by decide +kernel)) rfl
theorem tw_89 : (.selects RX0 yX0_ones yX0_ones : Cond) ∈ tg_ := tg_in (List.mem_of_getElem? (i := 96) (by decide +kernel)) rfl
theorem tw_90 : (.code yX0_ones cX0_ones 3 (some .int) : Cond) ∈ tg_ := tg_in (List.mem_of_getElem? (i := 97) rfl) rfl
theorem tw_91 : (.methodLink RX0 19 yJ7_bitCount : Cond) ∈ tg_ := tg_in (List.mem_of_getElem? (i := 98) (by decide +kernel)) rfl
theorem tw_92 : (.static yJ7_bitCount : Cond) ∈ tg_ := tg_in (List.mem_of_getElem? (i := 99) (by decide +kernel)) rfl
theorem tw_93 : (.code yJ7_bitCount cJ7_bitCount 2 (some .int) : Cond) ∈ tg_ := tg_in (List.mem_of_getElem? (i := 100) rfl) rfl
theorem tw_94 : (.constantLong RJ7 314 6148914691236517205 : Cond) ∈ tg_ := tg_in (List.mem_of_getElem? (i := 101) (by decide +kernel)) rfl
theorem tw_95 : (.constantLong RJ7 316 3689348814741910323 : Cond) ∈ tg_ := tg_in (List.mem_of_getElem? (i := 102) (by decide +kernel)) rfl
theorem tw_96 : (.constantLong RJ7 318 1085102592571150095 : Cond) ∈ tg_ := tg_in (List.mem_of_getElem? (i := 103) (by decide +kernel)) rfl
theorem tw_97 : (.methodLink RL 23 yX2_get : Cond) ∈ tg_ := tg_in (List.mem_of_getElem? (i := 104) (by decide +kernel)) rfl
theorem tw_98 : (.instanceMethod yX2_get : Cond) ∈ tg_ := tg_in (List.mem_of_getElem? (i := 105) (by decide +kernel)) rfl
theorem tw_99 : (.selects RX2 yX2_get yX2_get : Cond) ∈ tg_ := tg_in (List.mem_of_getElem? (i := 106) (by decide +kernel)) rfl
theorem tw_100 : (.code yX2_get cX2_get 3 (some .int) : Cond) ∈ tg_ := tg_in (List.mem_of_getElem? (i := 107) rfl) rfl
theorem tw_101 : (.methodLink RL 28 yX2_next : Cond) ∈ tg_ := tg_in (List.mem_of_getElem? (i := 108) (by decide +kernel)) rfl
theorem tw_102 : (.instanceMethod yX2_next : Cond) ∈ tg_ := tg_in (List.mem_of_getElem? (i := 109) (by decide +kernel)) rfl
theorem tw_103 : (.selects RX2 yX2_next yX2_next : Cond) ∈ tg_ := tg_in (List.mem_of_getElem? (i := 110) (by decide +kernel)) rfl
theorem tw_104 : (.code yX2_next cX2_next 4 (some .int) : Cond) ∈ tg_ := tg_in (List.mem_of_getElem? (i := 111) rfl) rfl
theorem tw_105 : (.methodLink RX2 49 yX0_firstFrom : Cond) ∈ tg_ := tg_in (List.mem_of_getElem? (i := 112) (by decide +kernel)) rfl
theorem tw_106 : (.instanceMethod yX0_firstFrom : Cond) ∈ tg_ := tg_in (List.mem_of_getElem? (i := 113) (by decide +kernel)) rfl
theorem tw_107 : (.selects RX0 yX0_firstFrom yX0_firstFrom : Cond) ∈ tg_ := tg_in (List.mem_of_getElem? (i := 114) (by decide +kernel)) rfl
theorem tw_108 : (.code yX0_firstFrom cX0_firstFrom 7 (some .int) : Cond) ∈ tg_ := tg_in (List.mem_of_getElem? (i := 115) rfl) rfl
theorem tw_109 : (.methodLink RX0 38 yJ7_numberOfTrailingZeros : Cond) ∈ tg_ := tg_in (List.mem_of_getElem? (i := 116) (by decide +kernel)) rfl
theorem tw_110 : (.static yJ7_numberOfTrailingZeros : Cond) ∈ tg_ := tg_in (List.mem_of_getElem? (i := 117) (by decide +kernel)) rfl
theorem tw_111 : (.code yJ7_numberOfTrailingZeros cJ7_numberOfTrailingZeros 3 (some .int) : Cond) ∈ tg_ := tg_in (List.mem_of_getElem? (i := 118) rfl) rfl
theorem tw_112 : (.methodLink RJ7 311 yJ6_numberOfTrailingZeros : Cond) ∈ tg_ := tg_in (List.mem_of_getElem? (i := 119) (by decide +kernel)) rfl
theorem tw_113 : (.static yJ6_numberOfTrailingZeros : Cond) ∈ tg_ := tg_in (List.mem_of_getElem? (i := 120) (by decide +kernel)) rfl
theorem tw_114 : (.code yJ6_numberOfTrailingZeros cJ6_numberOfTrailingZeros 2 (some .int) : Cond) ∈ tg_ := tg_in (List.mem_of_getElem? (i := 121) rfl) rfl
theorem tw_115 : (.constant RJ6 264 65536 : Cond) ∈ tg_ := tg_in (List.mem_of_getElem? (i := 122) (by decide +kernel)) rfl
theorem tw_116 : (.constantLong RX2 53 (-1) : Cond) ∈ tg_ := tg_in (List.mem_of_getElem? (i := 123) (by decide +kernel)) rfl
theorem tw_117 : (.methodLink RX2 55 yX0_lastUpTo : Cond) ∈ tg_ := tg_in (List.mem_of_getElem? (i := 124) (by decide +kernel)) rfl
theorem tw_118 : (.instanceMethod yX0_lastUpTo : Cond) ∈ tg_ := tg_in (List.mem_of_getElem? (i := 125) (by decide +kernel)) rfl
theorem tw_119 : (.selects RX0 yX0_lastUpTo yX0_lastUpTo : Cond) ∈ tg_ := tg_in (List.mem_of_getElem? (i := 126) (by decide +kernel)) rfl
theorem tw_120 : (.code yX0_lastUpTo cX0_lastUpTo 7 (some .int) : Cond) ∈ tg_ := tg_in (List.mem_of_getElem? (i := 127) rfl) rfl
theorem tw_121 : (.methodLink RX0 41 yJ7_numberOfLeadingZeros : Cond) ∈ tg_ := tg_in (List.mem_of_getElem? (i := 128) (by decide +kernel)) rfl
theorem tw_122 : (.static yJ7_numberOfLeadingZeros : Cond) ∈ tg_ := tg_in (List.mem_of_getElem? (i := 129) (by decide +kernel)) rfl
theorem tw_123 : (.code yJ7_numberOfLeadingZeros cJ7_numberOfLeadingZeros 3 (some .int) : Cond) ∈ tg_ := tg_in (List.mem_of_getElem? (i := 130) rfl) rfl
theorem tw_124 : (.methodLink RJ7 308 yJ6_numberOfLeadingZeros : Cond) ∈ tg_ := tg_in (List.mem_of_getElem? (i := 131) (by decide +kernel)) rfl
theorem tw_125 : (.static yJ6_numberOfLeadingZeros : Cond) ∈ tg_ := tg_in (List.mem_of_getElem? (i := 132) (by decide +kernel)) rfl
theorem tw_126 : (.code yJ6_numberOfLeadingZeros cJ6_numberOfLeadingZeros 2 (some .int) : Cond) ∈ tg_ := tg_in (List.mem_of_getElem? (i := 133) rfl) rfl
theorem tw_127 : (.methodLink RL 32 yX2_join : Cond) ∈ tg_ := tg_in (List.mem_of_getElem? (i := 134) (by decide +kernel)) rfl
theorem tw_128 : (.instanceMethod yX2_join : Cond) ∈ tg_ := tg_in (List.mem_of_getElem? (i := 135) (by decide +kernel)) rfl
theorem tw_129 : (.selects RX2 yX2_join yX2_join : Cond) ∈ tg_ := tg_in (List.mem_of_getElem? (i := 136) (by decide +kernel)) rfl
theorem tw_130 : (.code yX2_join cX2_join 4 (some .int) : Cond) ∈ tg_ := tg_in (List.mem_of_getElem? (i := 137) rfl) rfl
theorem tw_131 : (.methodLink RX2 58 yX0_combine : Cond) ∈ tg_ := tg_in (List.mem_of_getElem? (i := 138) (by decide +kernel)) rfl
theorem tw_132 : (.instanceMethod yX0_combine : Cond) ∈ tg_ := tg_in (List.mem_of_getElem? (i := 139) (by decide +kernel)) rfl
theorem tw_133 : (.selects RX0 yX0_combine yX0_combine : Cond) ∈ tg_ := tg_in (List.mem_of_getElem? (i := 140) (by decide +kernel)) rfl
theorem tw_134 : (.code yX0_combine cX0_combine 4 none : Cond) ∈ tg_ := tg_in (List.mem_of_getElem? (i := 141) rfl) rfl
theorem tw_135 : (.methodLink RX0 44 yX0_combined : Cond) ∈ tg_ := tg_in (List.mem_of_getElem? (i := 142) (by decide +kernel)) rfl
theorem tw_136 : (.static yX0_combined : Cond) ∈ tg_ := tg_in (List.mem_of_getElem? (i := 143) (by decide +kernel)) rfl
theorem tw_137 : (.code yX0_combined cX0_combined 5 (some .long) : Cond) ∈ tg_ := tg_in (List.mem_of_getElem? (i := 144) rfl) rfl
theorem tw_138 : (.methodLink RL 36 yX2_cut : Cond) ∈ tg_ := tg_in (List.mem_of_getElem? (i := 145) (by decide +kernel)) rfl
theorem tw_139 : (.instanceMethod yX2_cut : Cond) ∈ tg_ := tg_in (List.mem_of_getElem? (i := 146) (by decide +kernel)) rfl
theorem tw_140 : (.selects RX2 yX2_cut yX2_cut : Cond) ∈ tg_ := tg_in (List.mem_of_getElem? (i := 147) (by decide +kernel)) rfl
theorem tw_141 : (.code yX2_cut cX2_cut 5 (some .int) : Cond) ∈ tg_ := tg_in (List.mem_of_getElem? (i := 148) rfl) rfl
theorem tw_142 : (.methodLink RX2 62 yX0_takePiece : Cond) ∈ tg_ := tg_in (List.mem_of_getElem? (i := 149) (by decide +kernel)) rfl
theorem tw_143 : (.instanceMethod yX0_takePiece : Cond) ∈ tg_ := tg_in (List.mem_of_getElem? (i := 150) (by decide +kernel)) rfl
theorem tw_144 : (.selects RX0 yX0_takePiece yX0_takePiece : Cond) ∈ tg_ := tg_in (List.mem_of_getElem? (i := 151) (by decide +kernel)) rfl
theorem tw_145 : (.code yX0_takePiece cX0_takePiece 5 none : Cond) ∈ tg_ := tg_in (List.mem_of_getElem? (i := 152) rfl) rfl
theorem tw_146 : (.methodLink RX0 47 yX0_bitsFrom : Cond) ∈ tg_ := tg_in (List.mem_of_getElem? (i := 153) (by decide +kernel)) rfl
theorem tn_147 : (.privateMethod yX0_bitsFrom : Cond) ∈ lw_tbl := List.mem_of_getElem? (i := 154) (by decide +kernel)
theorem tw_148 : (.instanceMethod yX0_bitsFrom : Cond) ∈ tg_ := tg_in (List.mem_of_getElem? (i := 155) (by decide +kernel)) rfl
theorem tw_149 : (.code yX0_bitsFrom cX0_bitsFrom 4 (some .long) : Cond) ∈ tg_ := tg_in (List.mem_of_getElem? (i := 156) rfl) rfl
theorem tw_150 : (.methodLink RL 40 yX2_copy : Cond) ∈ tg_ := tg_in (List.mem_of_getElem? (i := 157) (by decide +kernel)) rfl
theorem tw_151 : (.instanceMethod yX2_copy : Cond) ∈ tg_ := tg_in (List.mem_of_getElem? (i := 158) (by decide +kernel)) rfl
theorem tw_152 : (.selects RX2 yX2_copy yX2_copy : Cond) ∈ tg_ := tg_in (List.mem_of_getElem? (i := 159) (by decide +kernel)) rfl
theorem tw_153 : (.code yX2_copy cX2_copy 3 (some .int) : Cond) ∈ tg_ := tg_in (List.mem_of_getElem? (i := 160) rfl) rfl
theorem tw_154 : (.methodLink RL 44 yX2_look : Cond) ∈ tg_ := tg_in (List.mem_of_getElem? (i := 161) (by decide +kernel)) rfl
theorem tw_155 : (.instanceMethod yX2_look : Cond) ∈ tg_ := tg_in (List.mem_of_getElem? (i := 162) (by decide +kernel)) rfl
theorem tw_156 : (.selects RX2 yX2_look yX2_look : Cond) ∈ tg_ := tg_in (List.mem_of_getElem? (i := 163) (by decide +kernel)) rfl
theorem tw_157 : (.code yX2_look cX2_look 3 (some .int) : Cond) ∈ tg_ := tg_in (List.mem_of_getElem? (i := 164) rfl) rfl
theorem tw_158 : (.methodLink RX2 66 yX0_end : Cond) ∈ tg_ := tg_in (List.mem_of_getElem? (i := 165) (by decide +kernel)) rfl
theorem tw_159 : (.instanceMethod yX0_end : Cond) ∈ tg_ := tg_in (List.mem_of_getElem? (i := 166) (by decide +kernel)) rfl
theorem tw_160 : (.selects RX0 yX0_end yX0_end : Cond) ∈ tg_ := tg_in (List.mem_of_getElem? (i := 167) (by decide +kernel)) rfl
theorem tw_161 : (.code yX0_end cX0_end 1 (some .int) : Cond) ∈ tg_ := tg_in (List.mem_of_getElem? (i := 168) rfl) rfl
theorem tw_162 : (.methodLink RX0 25 yX0_lastUpTo : Cond) ∈ tg_ := tg_in (List.mem_of_getElem? (i := 169) (by decide +kernel)) rfl
theorem tw_163 : (.methodLink RL 48 yX2_meet : Cond) ∈ tg_ := tg_in (List.mem_of_getElem? (i := 170) (by decide +kernel)) rfl
theorem tw_164 : (.instanceMethod yX2_meet : Cond) ∈ tg_ := tg_in (List.mem_of_getElem? (i := 171) (by decide +kernel)) rfl
theorem tw_165 : (.selects RX2 yX2_meet yX2_meet : Cond) ∈ tg_ := tg_in (List.mem_of_getElem? (i := 172) (by decide +kernel)) rfl
theorem tw_166 : (.code yX2_meet cX2_meet 4 (some .int) : Cond) ∈ tg_ := tg_in (List.mem_of_getElem? (i := 173) rfl) rfl
theorem tw_167 : (.methodLink RX2 69 yX0_sharesOne : Cond) ∈ tg_ := tg_in (List.mem_of_getElem? (i := 174) (by decide +kernel)) rfl
theorem tw_168 : (.instanceMethod yX0_sharesOne : Cond) ∈ tg_ := tg_in (List.mem_of_getElem? (i := 175) (by decide +kernel)) rfl
theorem tw_169 : (.selects RX0 yX0_sharesOne yX0_sharesOne : Cond) ∈ tg_ := tg_in (List.mem_of_getElem? (i := 176) (by decide +kernel)) rfl
theorem tw_170 : (.code yX0_sharesOne cX0_sharesOne 3 (some .boolean) : Cond) ∈ tg_ := tg_in (List.mem_of_getElem? (i := 177) rfl) rfl
theorem tw_171 : (.methodLink RX2 73 yX0_isSame : Cond) ∈ tg_ := tg_in (List.mem_of_getElem? (i := 178) (by decide +kernel)) rfl
theorem tw_172 : (.instanceMethod yX0_isSame : Cond) ∈ tg_ := tg_in (List.mem_of_getElem? (i := 179) (by decide +kernel)) rfl
theorem tw_173 : (.selects RX0 yX0_isSame yX0_isSame : Cond) ∈ tg_ := tg_in (List.mem_of_getElem? (i := 180) (by decide +kernel)) rfl
theorem tw_174 : (.code yX0_isSame cX0_isSame 3 (some .boolean) : Cond) ∈ tg_ := tg_in (List.mem_of_getElem? (i := 181) rfl) rfl
theorem tw_175 : (.methodLink RL 52 yX2_word : Cond) ∈ tg_ := tg_in (List.mem_of_getElem? (i := 182) (by decide +kernel)) rfl
theorem tw_176 : (.instanceMethod yX2_word : Cond) ∈ tg_ := tg_in (List.mem_of_getElem? (i := 183) (by decide +kernel)) rfl
theorem tw_177 : (.selects RX2 yX2_word yX2_word : Cond) ∈ tg_ := tg_in (List.mem_of_getElem? (i := 184) (by decide +kernel)) rfl
theorem tw_178 : (.code yX2_word cX2_word 3 (some .long) : Cond) ∈ tg_ := tg_in (List.mem_of_getElem? (i := 185) rfl) rfl
theorem tw_179 : (.constantLong RX2 76 4611686018427387904 : Cond) ∈ tg_ := tg_in (List.mem_of_getElem? (i := 186) (by decide +kernel)) rfl
theorem tw_180 : (.methodLink RX2 78 yX0_wordAt : Cond) ∈ tg_ := tg_in (List.mem_of_getElem? (i := 187) (by decide +kernel)) rfl
theorem tw_181 : (.methodLink RL 59 yX2_load : Cond) ∈ tg_ := tg_in (List.mem_of_getElem? (i := 188) (by decide +kernel)) rfl
theorem tw_182 : (.instanceMethod yX2_load : Cond) ∈ tg_ := tg_in (List.mem_of_getElem? (i := 189) (by decide +kernel)) rfl
theorem tw_183 : (.selects RX2 yX2_load yX2_load : Cond) ∈ tg_ := tg_in (List.mem_of_getElem? (i := 190) (by decide +kernel)) rfl
theorem tw_184 : (.code yX2_load cX2_load 8 (some .int) : Cond) ∈ tg_ := tg_in (List.mem_of_getElem? (i := 191) rfl) rfl
theorem tw_185 : (.methodLink RX2 82 yX0_takeWords : Cond) ∈ tg_ := tg_in (List.mem_of_getElem? (i := 192) (by decide +kernel)) rfl
theorem tw_186 : (.instanceMethod yX0_takeWords : Cond) ∈ tg_ := tg_in (List.mem_of_getElem? (i := 193) (by decide +kernel)) rfl
theorem tw_187 : (.selects RX0 yX0_takeWords yX0_takeWords : Cond) ∈ tg_ := tg_in (List.mem_of_getElem? (i := 194) (by decide +kernel)) rfl
theorem tw_188 : (.code yX0_takeWords cX0_takeWords 8 none : Cond) ∈ tg_ := tg_in (List.mem_of_getElem? (i := 195) rfl) rfl
theorem tw_189 : (.methodLink RL 64 yX2_walk : Cond) ∈ tg_ := tg_in (List.mem_of_getElem? (i := 196) (by decide +kernel)) rfl
theorem tw_190 : (.instanceMethod yX2_walk : Cond) ∈ tg_ := tg_in (List.mem_of_getElem? (i := 197) (by decide +kernel)) rfl
theorem tw_191 : (.selects RX2 yX2_walk yX2_walk : Cond) ∈ tg_ := tg_in (List.mem_of_getElem? (i := 198) (by decide +kernel)) rfl
theorem tw_192 : (.code yX2_walk cX2_walk 2 (some .long) : Cond) ∈ tg_ := tg_in (List.mem_of_getElem? (i := 199) rfl) rfl
theorem tw_193 : (.methodLink RX2 86 yX0_rankedSum : Cond) ∈ tg_ := tg_in (List.mem_of_getElem? (i := 200) (by decide +kernel)) rfl
theorem tw_194 : (.instanceMethod yX0_rankedSum : Cond) ∈ tg_ := tg_in (List.mem_of_getElem? (i := 201) (by decide +kernel)) rfl
theorem tw_195 : (.selects RX0 yX0_rankedSum yX0_rankedSum : Cond) ∈ tg_ := tg_in (List.mem_of_getElem? (i := 202) (by decide +kernel)) rfl
theorem tw_196 : (.code yX0_rankedSum cX0_rankedSum 9 (some .long) : Cond) ∈ tg_ := tg_in (List.mem_of_getElem? (i := 203) rfl) rfl
theorem tw_197 : (.methodLink RL 69 yX2_clear : Cond) ∈ tg_ := tg_in (List.mem_of_getElem? (i := 204) (by decide +kernel)) rfl
theorem tw_198 : (.instanceMethod yX2_clear : Cond) ∈ tg_ := tg_in (List.mem_of_getElem? (i := 205) (by decide +kernel)) rfl
theorem tw_199 : (.selects RX2 yX2_clear yX2_clear : Cond) ∈ tg_ := tg_in (List.mem_of_getElem? (i := 206) (by decide +kernel)) rfl
theorem tw_200 : (.code yX2_clear cX2_clear 3 (some .int) : Cond) ∈ tg_ := tg_in (List.mem_of_getElem? (i := 207) rfl) rfl
theorem tw_201 : (.methodLink RL 74 yX2_text : Cond) ∈ tg_ := tg_in (List.mem_of_getElem? (i := 208) (by decide +kernel)) rfl
theorem tw_202 : (.instanceMethod yX2_text : Cond) ∈ tg_ := tg_in (List.mem_of_getElem? (i := 209) (by decide +kernel)) rfl
theorem tw_203 : (.selects RX2 yX2_text yX2_text : Cond) ∈ tg_ := tg_in (List.mem_of_getElem? (i := 210) (by decide +kernel)) rfl
theorem tw_204 : (.code yX2_text cX2_text 2 (some .int) : Cond) ∈ tg_ := tg_in (List.mem_of_getElem? (i := 211) rfl) rfl
theorem tw_205 : (.methodLink RX2 90 yX1_write : Cond) ∈ tg_ := tg_in (List.mem_of_getElem? (i := 212) (by decide +kernel)) rfl
theorem tw_206 : (.instanceMethod yX1_write : Cond) ∈ tg_ := tg_in (List.mem_of_getElem? (i := 213) (by decide +kernel)) rfl
theorem tw_207 : (.selects RX1 yX1_write yX1_write : Cond) ∈ tg_ := tg_in (List.mem_of_getElem? (i := 214) (by decide +kernel)) rfl
theorem tw_208 : (.code yX1_write cX1_write 3 none : Cond) ∈ tg_ := tg_in (List.mem_of_getElem? (i := 215) rfl) rfl
theorem tw_209 : (.methodLink RX1 19 yX1_add : Cond) ∈ tg_ := tg_in (List.mem_of_getElem? (i := 216) (by decide +kernel)) rfl
theorem tn_210 : (.privateMethod yX1_add : Cond) ∈ lw_tbl := List.mem_of_getElem? (i := 217) (by decide +kernel)
theorem tw_211 : (.instanceMethod yX1_add : Cond) ∈ tg_ := tg_in (List.mem_of_getElem? (i := 218) (by decide +kernel)) rfl
theorem tw_212 : (.code yX1_add cX1_add 2 none : Cond) ∈ tg_ := tg_in (List.mem_of_getElem? (i := 219) rfl) rfl
theorem tw_213 : (.methodLink RX1 23 yX0_bit : Cond) ∈ tg_ := tg_in (List.mem_of_getElem? (i := 220) (by decide +kernel)) rfl
theorem tw_214 : (.methodLink RX1 29 yX1_addPlace : Cond) ∈ tg_ := tg_in (List.mem_of_getElem? (i := 221) (by decide +kernel)) rfl
theorem tn_215 : (.privateMethod yX1_addPlace : Cond) ∈ lw_tbl := List.mem_of_getElem? (i := 222) (by decide +kernel)
theorem tw_216 : (.instanceMethod yX1_addPlace : Cond) ∈ tg_ := tg_in (List.mem_of_getElem? (i := 223) (by decide +kernel)) rfl
theorem tw_217 : (.code yX1_addPlace cX1_addPlace 2 none : Cond) ∈ tg_ := tg_in (List.mem_of_getElem? (i := 224) rfl) rfl
theorem tw_218 : (.methodLink RX1 33 yX1_addDigit : Cond) ∈ tg_ := tg_in (List.mem_of_getElem? (i := 225) (by decide +kernel)) rfl
theorem tn_219 : (.privateMethod yX1_addDigit : Cond) ∈ lw_tbl := List.mem_of_getElem? (i := 226) (by decide +kernel)
theorem tw_220 : (.instanceMethod yX1_addDigit : Cond) ∈ tg_ := tg_in (List.mem_of_getElem? (i := 227) (by decide +kernel)) rfl
theorem tw_221 : (.code yX1_addDigit cX1_addDigit 2 none : Cond) ∈ tg_ := tg_in (List.mem_of_getElem? (i := 228) rfl) rfl
theorem tw_222 : (.methodLink RX2 94 yX1_length : Cond) ∈ tg_ := tg_in (List.mem_of_getElem? (i := 229) (by decide +kernel)) rfl
theorem tw_223 : (.instanceMethod yX1_length : Cond) ∈ tg_ := tg_in (List.mem_of_getElem? (i := 230) (by decide +kernel)) rfl
theorem tw_224 : (.selects RX1 yX1_length yX1_length : Cond) ∈ tg_ := tg_in (List.mem_of_getElem? (i := 231) (by decide +kernel)) rfl
theorem tw_225 : (.code yX1_length cX1_length 1 (some .int) : Cond) ∈ tg_ := tg_in (List.mem_of_getElem? (i := 232) rfl) rfl
theorem tw_226 : (.methodLink RL 78 yX2_octet : Cond) ∈ tg_ := tg_in (List.mem_of_getElem? (i := 233) (by decide +kernel)) rfl
theorem tw_227 : (.instanceMethod yX2_octet : Cond) ∈ tg_ := tg_in (List.mem_of_getElem? (i := 234) (by decide +kernel)) rfl
theorem tw_228 : (.selects RX2 yX2_octet yX2_octet : Cond) ∈ tg_ := tg_in (List.mem_of_getElem? (i := 235) (by decide +kernel)) rfl
theorem tw_229 : (.code yX2_octet cX2_octet 2 (some .int) : Cond) ∈ tg_ := tg_in (List.mem_of_getElem? (i := 236) rfl) rfl
theorem tw_230 : (.methodLink RX2 97 yX1_codeAt : Cond) ∈ tg_ := tg_in (List.mem_of_getElem? (i := 237) (by decide +kernel)) rfl
theorem tw_231 : (.instanceMethod yX1_codeAt : Cond) ∈ tg_ := tg_in (List.mem_of_getElem? (i := 238) (by decide +kernel)) rfl
theorem tw_232 : (.selects RX1 yX1_codeAt yX1_codeAt : Cond) ∈ tg_ := tg_in (List.mem_of_getElem? (i := 239) (by decide +kernel)) rfl
theorem tw_233 : (.code yX1_codeAt cX1_codeAt 2 (some .int) : Cond) ∈ tg_ := tg_in (List.mem_of_getElem? (i := 240) rfl) rfl
theorem tw_234 : (.classLink RL 10 RX3 : Cond) ∈ tg_ := tg_in (List.mem_of_getElem? (i := 241) (by decide +kernel)) rfl
theorem tw_235 : (.instantiable RX3 4 : Cond) ∈ tg_ := tg_in (List.mem_of_getElem? (i := 242) (by decide +kernel)) rfl
theorem tw_236 : (.methodLink RL 12 yX3_init : Cond) ∈ tg_ := tg_in (List.mem_of_getElem? (i := 243) (by decide +kernel)) rfl
theorem tw_237 : (.instanceMethod yX3_init : Cond) ∈ tg_ := tg_in (List.mem_of_getElem? (i := 244) (by decide +kernel)) rfl
theorem tw_238 : (.code yX3_init cX3_init 1 none : Cond) ∈ tg_ := tg_in (List.mem_of_getElem? (i := 245) rfl) rfl
theorem tw_239 : (.methodLink RX3 1 objectInit : Cond) ∈ tg_ := tg_in (List.mem_of_getElem? (i := 246) (by decide +kernel)) rfl
theorem tw_240 : (.classLink RX3 9 "[[Z" : Cond) ∈ tg_ := tg_in (List.mem_of_getElem? (i := 247) (by decide +kernel)) rfl
theorem tn_241 : (.arrayOver (.array .boolean) : Cond) ∈ lw_tbl := List.mem_of_getElem? (i := 248) (by decide +kernel)
theorem tw_242 : (.fieldLink RX3 11 "BitBoardModel" "rows" "[[Z" : Cond) ∈ tg_ := tg_in (List.mem_of_getElem? (i := 249) (by decide +kernel)) rfl
theorem tw_243 : (.fieldLink RX3 14 "BitBoardModel" "piece" "[Z" : Cond) ∈ tg_ := tg_in (List.mem_of_getElem? (i := 250) (by decide +kernel)) rfl
theorem tw_244 : (.fieldLink RX3 18 "BitBoardModel" "signs" "[B" : Cond) ∈ tg_ := tg_in (List.mem_of_getElem? (i := 251) (by decide +kernel)) rfl
theorem tw_245 : (.fieldLink RX3 48 "BitBoardModel" "signCount" "I" : Cond) ∈ tg_ := tg_in (List.mem_of_getElem? (i := 252) (by decide +kernel)) rfl
theorem tw_246 : (.laysFinal RX3 "BitBoardModel" "rows" "[[Z" : Cond) ∈ tg_ := tg_in (List.mem_of_getElem? (i := 253) (by decide +kernel)) rfl
theorem tw_248 : (.laysFinal RX3 "BitBoardModel" "piece" "[Z" : Cond) ∈ tg_ := tg_in (List.mem_of_getElem? (i := 255) (by decide +kernel)) rfl
theorem tw_250 : (.laysFinal RX3 "BitBoardModel" "signs" "[B" : Cond) ∈ tg_ := tg_in (List.mem_of_getElem? (i := 257) (by decide +kernel)) rfl
theorem tw_252 : (.lays RX3 "BitBoardModel" "signCount" "I" : Cond) ∈ tg_ := tg_in (List.mem_of_getElem? (i := 259) (by decide +kernel)) rfl
theorem tw_255 : (.arrayClass .boolean : Cond) ∈ tg_ := tg_in (List.mem_of_getElem? (i := 262) (by decide +kernel)) rfl
theorem tw_256 : (.arrayClass .byte : Cond) ∈ tg_ := tg_in (List.mem_of_getElem? (i := 263) (by decide +kernel)) rfl
theorem tw_257 : (.methodLink RL 17 yX3_set : Cond) ∈ tg_ := tg_in (List.mem_of_getElem? (i := 264) (by decide +kernel)) rfl
theorem tw_258 : (.instanceMethod yX3_set : Cond) ∈ tg_ := tg_in (List.mem_of_getElem? (i := 265) (by decide +kernel)) rfl
theorem tw_259 : (.selects RX3 yX3_set yX3_set : Cond) ∈ tg_ := tg_in (List.mem_of_getElem? (i := 266) (by decide +kernel)) rfl
theorem tw_260 : (.code yX3_set cX3_set 5 (some .int) : Cond) ∈ tg_ := tg_in (List.mem_of_getElem? (i := 267) rfl) rfl
theorem tw_261 : (.methodLink RX3 22 yX3_isRow : Cond) ∈ tg_ := tg_in (List.mem_of_getElem? (i := 268) (by decide +kernel)) rfl
theorem tw_262 : (.static yX3_isRow : Cond) ∈ tg_ := tg_in (List.mem_of_getElem? (i := 269) (by decide +kernel)) rfl
theorem tw_263 : (.code yX3_isRow cX3_isRow 1 (some .boolean) : Cond) ∈ tg_ := tg_in (List.mem_of_getElem? (i := 270) rfl) rfl
theorem tw_264 : (.methodLink RX3 26 yX3_isPlace : Cond) ∈ tg_ := tg_in (List.mem_of_getElem? (i := 271) (by decide +kernel)) rfl
theorem tw_265 : (.static yX3_isPlace : Cond) ∈ tg_ := tg_in (List.mem_of_getElem? (i := 272) (by decide +kernel)) rfl
theorem tw_266 : (.code yX3_isPlace cX3_isPlace 1 (some .boolean) : Cond) ∈ tg_ := tg_in (List.mem_of_getElem? (i := 273) rfl) rfl
theorem tw_267 : (.methodLink RX3 29 yX3_changed : Cond) ∈ tg_ := tg_in (List.mem_of_getElem? (i := 274) (by decide +kernel)) rfl
theorem tw_268 : (.static yX3_changed : Cond) ∈ tg_ := tg_in (List.mem_of_getElem? (i := 275) (by decide +kernel)) rfl
theorem tw_269 : (.code yX3_changed cX3_changed 2 (some .boolean) : Cond) ∈ tg_ := tg_in (List.mem_of_getElem? (i := 276) rfl) rfl
theorem tw_270 : (.methodLink RL 22 yX3_piece : Cond) ∈ tg_ := tg_in (List.mem_of_getElem? (i := 277) (by decide +kernel)) rfl
theorem tw_271 : (.instanceMethod yX3_piece : Cond) ∈ tg_ := tg_in (List.mem_of_getElem? (i := 278) (by decide +kernel)) rfl
theorem tw_272 : (.selects RX3 yX3_piece yX3_piece : Cond) ∈ tg_ := tg_in (List.mem_of_getElem? (i := 279) (by decide +kernel)) rfl
theorem tw_273 : (.code yX3_piece cX3_piece 6 (some .int) : Cond) ∈ tg_ := tg_in (List.mem_of_getElem? (i := 280) rfl) rfl
theorem tw_274 : (.methodLink RX3 33 yX3_isPiece : Cond) ∈ tg_ := tg_in (List.mem_of_getElem? (i := 281) (by decide +kernel)) rfl
theorem tw_275 : (.static yX3_isPiece : Cond) ∈ tg_ := tg_in (List.mem_of_getElem? (i := 282) (by decide +kernel)) rfl
theorem tw_276 : (.code yX3_isPiece cX3_isPiece 2 (some .boolean) : Cond) ∈ tg_ := tg_in (List.mem_of_getElem? (i := 283) rfl) rfl
theorem tw_277 : (.methodLink RX3 37 yX3_ones : Cond) ∈ tg_ := tg_in (List.mem_of_getElem? (i := 284) (by decide +kernel)) rfl
theorem tn_278 : (.privateMethod yX3_ones : Cond) ∈ lw_tbl := List.mem_of_getElem? (i := 285) (by decide +kernel)
theorem tw_279 : (.instanceMethod yX3_ones : Cond) ∈ tg_ := tg_in (List.mem_of_getElem? (i := 286) (by decide +kernel)) rfl
theorem tw_280 : (.code yX3_ones cX3_ones 4 (some .int) : Cond) ∈ tg_ := tg_in (List.mem_of_getElem? (i := 287) rfl) rfl
theorem tw_281 : (.methodLink RL 27 yX3_get : Cond) ∈ tg_ := tg_in (List.mem_of_getElem? (i := 288) (by decide +kernel)) rfl
theorem tw_282 : (.instanceMethod yX3_get : Cond) ∈ tg_ := tg_in (List.mem_of_getElem? (i := 289) (by decide +kernel)) rfl
theorem tw_283 : (.selects RX3 yX3_get yX3_get : Cond) ∈ tg_ := tg_in (List.mem_of_getElem? (i := 290) (by decide +kernel)) rfl
theorem tw_284 : (.code yX3_get cX3_get 3 (some .int) : Cond) ∈ tg_ := tg_in (List.mem_of_getElem? (i := 291) rfl) rfl
theorem tw_285 : (.methodLink RL 31 yX3_next : Cond) ∈ tg_ := tg_in (List.mem_of_getElem? (i := 292) (by decide +kernel)) rfl
theorem tw_286 : (.instanceMethod yX3_next : Cond) ∈ tg_ := tg_in (List.mem_of_getElem? (i := 293) (by decide +kernel)) rfl
theorem tw_287 : (.selects RX3 yX3_next yX3_next : Cond) ∈ tg_ := tg_in (List.mem_of_getElem? (i := 294) (by decide +kernel)) rfl
theorem tw_288 : (.code yX3_next cX3_next 6 (some .int) : Cond) ∈ tg_ := tg_in (List.mem_of_getElem? (i := 295) rfl) rfl
theorem tw_289 : (.methodLink RL 35 yX3_join : Cond) ∈ tg_ := tg_in (List.mem_of_getElem? (i := 296) (by decide +kernel)) rfl
theorem tw_290 : (.instanceMethod yX3_join : Cond) ∈ tg_ := tg_in (List.mem_of_getElem? (i := 297) (by decide +kernel)) rfl
theorem tw_291 : (.selects RX3 yX3_join yX3_join : Cond) ∈ tg_ := tg_in (List.mem_of_getElem? (i := 298) (by decide +kernel)) rfl
theorem tw_292 : (.code yX3_join cX3_join 7 (some .int) : Cond) ∈ tg_ := tg_in (List.mem_of_getElem? (i := 299) rfl) rfl
theorem tw_293 : (.methodLink RL 39 yX3_cut : Cond) ∈ tg_ := tg_in (List.mem_of_getElem? (i := 300) (by decide +kernel)) rfl
theorem tw_294 : (.instanceMethod yX3_cut : Cond) ∈ tg_ := tg_in (List.mem_of_getElem? (i := 301) (by decide +kernel)) rfl
theorem tw_295 : (.selects RX3 yX3_cut yX3_cut : Cond) ∈ tg_ := tg_in (List.mem_of_getElem? (i := 302) (by decide +kernel)) rfl
theorem tw_296 : (.code yX3_cut cX3_cut 6 (some .int) : Cond) ∈ tg_ := tg_in (List.mem_of_getElem? (i := 303) rfl) rfl
theorem tw_297 : (.methodLink RL 43 yX3_copy : Cond) ∈ tg_ := tg_in (List.mem_of_getElem? (i := 304) (by decide +kernel)) rfl
theorem tw_298 : (.instanceMethod yX3_copy : Cond) ∈ tg_ := tg_in (List.mem_of_getElem? (i := 305) (by decide +kernel)) rfl
theorem tw_299 : (.selects RX3 yX3_copy yX3_copy : Cond) ∈ tg_ := tg_in (List.mem_of_getElem? (i := 306) (by decide +kernel)) rfl
theorem tw_300 : (.code yX3_copy cX3_copy 4 (some .int) : Cond) ∈ tg_ := tg_in (List.mem_of_getElem? (i := 307) rfl) rfl
theorem tw_301 : (.methodLink RL 47 yX3_look : Cond) ∈ tg_ := tg_in (List.mem_of_getElem? (i := 308) (by decide +kernel)) rfl
theorem tw_302 : (.instanceMethod yX3_look : Cond) ∈ tg_ := tg_in (List.mem_of_getElem? (i := 309) (by decide +kernel)) rfl
theorem tw_303 : (.selects RX3 yX3_look yX3_look : Cond) ∈ tg_ := tg_in (List.mem_of_getElem? (i := 310) (by decide +kernel)) rfl
theorem tw_304 : (.code yX3_look cX3_look 3 (some .int) : Cond) ∈ tg_ := tg_in (List.mem_of_getElem? (i := 311) rfl) rfl
theorem tw_305 : (.methodLink RX3 41 yX3_end : Cond) ∈ tg_ := tg_in (List.mem_of_getElem? (i := 312) (by decide +kernel)) rfl
theorem tn_306 : (.privateMethod yX3_end : Cond) ∈ lw_tbl := List.mem_of_getElem? (i := 313) (by decide +kernel)
theorem tw_307 : (.instanceMethod yX3_end : Cond) ∈ tg_ := tg_in (List.mem_of_getElem? (i := 314) (by decide +kernel)) rfl
theorem tw_308 : (.code yX3_end cX3_end 3 (some .int) : Cond) ∈ tg_ := tg_in (List.mem_of_getElem? (i := 315) rfl) rfl
theorem tw_309 : (.methodLink RL 51 yX3_meet : Cond) ∈ tg_ := tg_in (List.mem_of_getElem? (i := 316) (by decide +kernel)) rfl
theorem tw_310 : (.instanceMethod yX3_meet : Cond) ∈ tg_ := tg_in (List.mem_of_getElem? (i := 317) (by decide +kernel)) rfl
theorem tw_311 : (.selects RX3 yX3_meet yX3_meet : Cond) ∈ tg_ := tg_in (List.mem_of_getElem? (i := 318) (by decide +kernel)) rfl
theorem tw_312 : (.code yX3_meet cX3_meet 7 (some .int) : Cond) ∈ tg_ := tg_in (List.mem_of_getElem? (i := 319) rfl) rfl
theorem tw_313 : (.methodLink RL 56 yX3_word : Cond) ∈ tg_ := tg_in (List.mem_of_getElem? (i := 320) (by decide +kernel)) rfl
theorem tw_314 : (.instanceMethod yX3_word : Cond) ∈ tg_ := tg_in (List.mem_of_getElem? (i := 321) (by decide +kernel)) rfl
theorem tw_315 : (.selects RX3 yX3_word yX3_word : Cond) ∈ tg_ := tg_in (List.mem_of_getElem? (i := 322) (by decide +kernel)) rfl
theorem tw_316 : (.code yX3_word cX3_word 6 (some .long) : Cond) ∈ tg_ := tg_in (List.mem_of_getElem? (i := 323) rfl) rfl
theorem tw_317 : (.constantLong RX3 44 4611686018427387904 : Cond) ∈ tg_ := tg_in (List.mem_of_getElem? (i := 324) (by decide +kernel)) rfl
theorem tw_318 : (.constantLong RX3 46 2 : Cond) ∈ tg_ := tg_in (List.mem_of_getElem? (i := 325) (by decide +kernel)) rfl
theorem tw_319 : (.methodLink RL 63 yX3_load : Cond) ∈ tg_ := tg_in (List.mem_of_getElem? (i := 326) (by decide +kernel)) rfl
theorem tw_320 : (.instanceMethod yX3_load : Cond) ∈ tg_ := tg_in (List.mem_of_getElem? (i := 327) (by decide +kernel)) rfl
theorem tw_321 : (.selects RX3 yX3_load yX3_load : Cond) ∈ tg_ := tg_in (List.mem_of_getElem? (i := 328) (by decide +kernel)) rfl
theorem tw_322 : (.code yX3_load cX3_load 9 (some .int) : Cond) ∈ tg_ := tg_in (List.mem_of_getElem? (i := 329) rfl) rfl
theorem tw_323 : (.methodLink RL 68 yX3_walk : Cond) ∈ tg_ := tg_in (List.mem_of_getElem? (i := 330) (by decide +kernel)) rfl
theorem tw_324 : (.instanceMethod yX3_walk : Cond) ∈ tg_ := tg_in (List.mem_of_getElem? (i := 331) (by decide +kernel)) rfl
theorem tw_325 : (.selects RX3 yX3_walk yX3_walk : Cond) ∈ tg_ := tg_in (List.mem_of_getElem? (i := 332) (by decide +kernel)) rfl
theorem tw_326 : (.code yX3_walk cX3_walk 6 (some .long) : Cond) ∈ tg_ := tg_in (List.mem_of_getElem? (i := 333) rfl) rfl
theorem tw_327 : (.methodLink RL 73 yX3_clear : Cond) ∈ tg_ := tg_in (List.mem_of_getElem? (i := 334) (by decide +kernel)) rfl
theorem tw_328 : (.instanceMethod yX3_clear : Cond) ∈ tg_ := tg_in (List.mem_of_getElem? (i := 335) (by decide +kernel)) rfl
theorem tw_329 : (.selects RX3 yX3_clear yX3_clear : Cond) ∈ tg_ := tg_in (List.mem_of_getElem? (i := 336) (by decide +kernel)) rfl
theorem tw_330 : (.code yX3_clear cX3_clear 4 (some .int) : Cond) ∈ tg_ := tg_in (List.mem_of_getElem? (i := 337) rfl) rfl
theorem tw_331 : (.methodLink RL 77 yX3_text : Cond) ∈ tg_ := tg_in (List.mem_of_getElem? (i := 338) (by decide +kernel)) rfl
theorem tw_332 : (.instanceMethod yX3_text : Cond) ∈ tg_ := tg_in (List.mem_of_getElem? (i := 339) (by decide +kernel)) rfl
theorem tw_333 : (.selects RX3 yX3_text yX3_text : Cond) ∈ tg_ := tg_in (List.mem_of_getElem? (i := 340) (by decide +kernel)) rfl
theorem tw_334 : (.code yX3_text cX3_text 4 (some .int) : Cond) ∈ tg_ := tg_in (List.mem_of_getElem? (i := 341) rfl) rfl
theorem tw_335 : (.methodLink RX3 52 yX3_write : Cond) ∈ tg_ := tg_in (List.mem_of_getElem? (i := 342) (by decide +kernel)) rfl
theorem tn_336 : (.privateMethod yX3_write : Cond) ∈ lw_tbl := List.mem_of_getElem? (i := 343) (by decide +kernel)
theorem tw_337 : (.instanceMethod yX3_write : Cond) ∈ tg_ := tg_in (List.mem_of_getElem? (i := 344) (by decide +kernel)) rfl
theorem tw_338 : (.code yX3_write cX3_write 2 none : Cond) ∈ tg_ := tg_in (List.mem_of_getElem? (i := 345) rfl) rfl
theorem tw_339 : (.methodLink RL 81 yX3_octet : Cond) ∈ tg_ := tg_in (List.mem_of_getElem? (i := 346) (by decide +kernel)) rfl
theorem tw_340 : (.instanceMethod yX3_octet : Cond) ∈ tg_ := tg_in (List.mem_of_getElem? (i := 347) (by decide +kernel)) rfl
theorem tw_341 : (.selects RX3 yX3_octet yX3_octet : Cond) ∈ tg_ := tg_in (List.mem_of_getElem? (i := 348) (by decide +kernel)) rfl
theorem tw_342 : (.code yX3_octet cX3_octet 2 (some .int) : Cond) ∈ tg_ := tg_in (List.mem_of_getElem? (i := 349) rfl) rfl
theorem tw_343 : (.constantLong RL 57 4294967295 : Cond) ∈ tg_ := tg_in (List.mem_of_getElem? (i := 350) (by decide +kernel)) rfl
theorem ts_0 : (.selects RX0 yX0_bitsFrom yX0_bitsFrom : Cond) ∈ tg_ := tg_in (List.mem_of_getElem? (i := 0) (by decide +kernel)) rfl
theorem ts_1 : (.selects RX1 yX1_add yX1_add : Cond) ∈ tg_ := tg_in (List.mem_of_getElem? (i := 1) (by decide +kernel)) rfl
theorem ts_2 : (.selects RX1 yX1_addPlace yX1_addPlace : Cond) ∈ tg_ := tg_in (List.mem_of_getElem? (i := 2) (by decide +kernel)) rfl
theorem ts_3 : (.selects RX1 yX1_addDigit yX1_addDigit : Cond) ∈ tg_ := tg_in (List.mem_of_getElem? (i := 3) (by decide +kernel)) rfl
theorem ts_4 : (.selects RX3 yX3_ones yX3_ones : Cond) ∈ tg_ := tg_in (List.mem_of_getElem? (i := 4) (by decide +kernel)) rfl
theorem ts_5 : (.selects RX3 yX3_end yX3_end : Cond) ∈ tg_ := tg_in (List.mem_of_getElem? (i := 5) (by decide +kernel)) rfl
theorem ts_6 : (.selects RX3 yX3_write yX3_write : Cond) ∈ tg_ := tg_in (List.mem_of_getElem? (i := 6) (by decide +kernel)) rfl
theorem igX0 : ∀ w ∈ u_ws RX0 TX0 1, w ∈ tg_ := fun w h => tg_in (inX0 w h) (List.all_eq_true.mp (by decide +kernel : (u_ws RX0 TX0 1).all goodWord = true) w h)
theorem igX1 : ∀ w ∈ u_ws RX1 TX1 2, w ∈ tg_ := fun w h => tg_in (inX1 w h) (List.all_eq_true.mp (by decide +kernel : (u_ws RX1 TX1 2).all goodWord = true) w h)
theorem igX2 : ∀ w ∈ u_ws RX2 TX2 2, w ∈ tg_ := fun w h => tg_in (inX2 w h) (List.all_eq_true.mp (by decide +kernel : (u_ws RX2 TX2 2).all goodWord = true) w h)
theorem igX3 : ∀ w ∈ u_ws RX3 TX3 4, w ∈ tg_ := fun w h => tg_in (inX3 w h) (List.all_eq_true.mp (by decide +kernel : (u_ws RX3 TX3 4).all goodWord = true) w h)
def wX2_init : List Cond := (.code yX2_init cX2_init 2 none : Cond) :: tg_
def wX0_init : List Cond := (.code yX0_init cX0_init 1 none : Cond) :: tg_
def wX1_init : List Cond := (.code yX1_init cX1_init 1 none : Cond) :: tg_
def wX2_set : List Cond := (.code yX2_set cX2_set 5 (some .int) : Cond) :: tg_
def wX2_isRow : List Cond := (.code yX2_isRow cX2_isRow 1 (some .boolean) : Cond) :: tg_
def wX2_isChange : List Cond := (.code yX2_isChange cX2_isChange 1 (some .boolean) : Cond) :: tg_
def wX2_isPlace : List Cond := (.code yX2_isPlace cX2_isPlace 1 (some .boolean) : Cond) :: tg_
def wX0_bit : List Cond := (.code yX0_bit cX0_bit 2 (some .int) : Cond) :: tg_
def wX0_wordAt : List Cond := (.code yX0_wordAt cX0_wordAt 2 (some .long) : Cond) :: tg_
def wX0_change : List Cond := (.code yX0_change cX0_change 7 none : Cond) :: tg_
def wX0_lowBits : List Cond := (.code yX0_lowBits cX0_lowBits 1 (some .long) : Cond) :: tg_
def wX0_changed : List Cond := (.code yX0_changed cX0_changed 5 (some .long) : Cond) :: tg_
def wX2_piece : List Cond := (.code yX2_piece cX2_piece 5 (some .int) : Cond) :: tg_
def wX2_isPiece : List Cond := (.code yX2_isPiece cX2_isPiece 2 (some .boolean) : Cond) :: tg_
def wX0_ones : List Cond := (.code yX0_ones cX0_ones 3 (some .int) : Cond) :: tg_
def wJ7_bitCount : List Cond := (.code yJ7_bitCount cJ7_bitCount 2 (some .int) : Cond) :: tg_
def wX2_get : List Cond := (.code yX2_get cX2_get 3 (some .int) : Cond) :: tg_
def wX2_next : List Cond := (.code yX2_next cX2_next 4 (some .int) : Cond) :: tg_
def wX0_firstFrom : List Cond := (.code yX0_firstFrom cX0_firstFrom 7 (some .int) : Cond) :: tg_
def wJ7_numberOfTrailingZeros : List Cond := (.code yJ7_numberOfTrailingZeros cJ7_numberOfTrailingZeros 3 (some .int) : Cond) :: tg_
def wJ6_numberOfTrailingZeros : List Cond := (.code yJ6_numberOfTrailingZeros cJ6_numberOfTrailingZeros 2 (some .int) : Cond) :: tg_
def wX0_lastUpTo : List Cond := (.code yX0_lastUpTo cX0_lastUpTo 7 (some .int) : Cond) :: tg_
def wJ7_numberOfLeadingZeros : List Cond := (.code yJ7_numberOfLeadingZeros cJ7_numberOfLeadingZeros 3 (some .int) : Cond) :: tg_
def wJ6_numberOfLeadingZeros : List Cond := (.code yJ6_numberOfLeadingZeros cJ6_numberOfLeadingZeros 2 (some .int) : Cond) :: tg_
def wX2_join : List Cond := (.code yX2_join cX2_join 4 (some .int) : Cond) :: tg_
def wX0_combine : List Cond := (.code yX0_combine cX0_combine 4 none : Cond) :: tg_
def wX0_combined : List Cond := (.code yX0_combined cX0_combined 5 (some .long) : Cond) :: tg_
def wX2_cut : List Cond := (.code yX2_cut cX2_cut 5 (some .int) : Cond) :: tg_
def wX0_takePiece : List Cond := (.code yX0_takePiece cX0_takePiece 5 none : Cond) :: tg_
def wX0_bitsFrom : List Cond := (.code yX0_bitsFrom cX0_bitsFrom 4 (some .long) : Cond) :: tg_
def wX2_copy : List Cond := (.code yX2_copy cX2_copy 3 (some .int) : Cond) :: tg_
def wX2_look : List Cond := (.code yX2_look cX2_look 3 (some .int) : Cond) :: tg_
def wX0_end : List Cond := (.code yX0_end cX0_end 1 (some .int) : Cond) :: tg_
def wX2_meet : List Cond := (.code yX2_meet cX2_meet 4 (some .int) : Cond) :: tg_
def wX0_sharesOne : List Cond := (.code yX0_sharesOne cX0_sharesOne 3 (some .boolean) : Cond) :: tg_
def wX0_isSame : List Cond := (.code yX0_isSame cX0_isSame 3 (some .boolean) : Cond) :: tg_
def wX2_word : List Cond := (.code yX2_word cX2_word 3 (some .long) : Cond) :: tg_
def wX2_load : List Cond := (.code yX2_load cX2_load 8 (some .int) : Cond) :: tg_
def wX0_takeWords : List Cond := (.code yX0_takeWords cX0_takeWords 8 none : Cond) :: tg_
def wX2_walk : List Cond := (.code yX2_walk cX2_walk 2 (some .long) : Cond) :: tg_
def wX0_rankedSum : List Cond := (.code yX0_rankedSum cX0_rankedSum 9 (some .long) : Cond) :: tg_
def wX2_clear : List Cond := (.code yX2_clear cX2_clear 3 (some .int) : Cond) :: tg_
def wX2_text : List Cond := (.code yX2_text cX2_text 2 (some .int) : Cond) :: tg_
def wX1_write : List Cond := (.code yX1_write cX1_write 3 none : Cond) :: tg_
def wX1_add : List Cond := (.code yX1_add cX1_add 2 none : Cond) :: tg_
def wX1_addPlace : List Cond := (.code yX1_addPlace cX1_addPlace 2 none : Cond) :: tg_
def wX1_addDigit : List Cond := (.code yX1_addDigit cX1_addDigit 2 none : Cond) :: tg_
def wX1_length : List Cond := (.code yX1_length cX1_length 1 (some .int) : Cond) :: tg_
def wX2_octet : List Cond := (.code yX2_octet cX2_octet 2 (some .int) : Cond) :: tg_
def wX1_codeAt : List Cond := (.code yX1_codeAt cX1_codeAt 2 (some .int) : Cond) :: tg_
def wX3_init : List Cond := (.code yX3_init cX3_init 1 none : Cond) :: tg_
def wX3_set : List Cond := (.code yX3_set cX3_set 5 (some .int) : Cond) :: tg_
def wX3_isRow : List Cond := (.code yX3_isRow cX3_isRow 1 (some .boolean) : Cond) :: tg_
def wX3_isPlace : List Cond := (.code yX3_isPlace cX3_isPlace 1 (some .boolean) : Cond) :: tg_
def wX3_changed : List Cond := (.code yX3_changed cX3_changed 2 (some .boolean) : Cond) :: tg_
def wX3_piece : List Cond := (.code yX3_piece cX3_piece 6 (some .int) : Cond) :: tg_
def wX3_isPiece : List Cond := (.code yX3_isPiece cX3_isPiece 2 (some .boolean) : Cond) :: tg_
def wX3_ones : List Cond := (.code yX3_ones cX3_ones 4 (some .int) : Cond) :: tg_
def wX3_get : List Cond := (.code yX3_get cX3_get 3 (some .int) : Cond) :: tg_
def wX3_next : List Cond := (.code yX3_next cX3_next 6 (some .int) : Cond) :: tg_
def wX3_join : List Cond := (.code yX3_join cX3_join 7 (some .int) : Cond) :: tg_
def wX3_cut : List Cond := (.code yX3_cut cX3_cut 6 (some .int) : Cond) :: tg_
def wX3_copy : List Cond := (.code yX3_copy cX3_copy 4 (some .int) : Cond) :: tg_
def wX3_look : List Cond := (.code yX3_look cX3_look 3 (some .int) : Cond) :: tg_
def wX3_end : List Cond := (.code yX3_end cX3_end 3 (some .int) : Cond) :: tg_
def wX3_meet : List Cond := (.code yX3_meet cX3_meet 7 (some .int) : Cond) :: tg_
def wX3_word : List Cond := (.code yX3_word cX3_word 6 (some .long) : Cond) :: tg_
def wX3_load : List Cond := (.code yX3_load cX3_load 9 (some .int) : Cond) :: tg_
def wX3_walk : List Cond := (.code yX3_walk cX3_walk 6 (some .long) : Cond) :: tg_
def wX3_clear : List Cond := (.code yX3_clear cX3_clear 4 (some .int) : Cond) :: tg_
def wX3_text : List Cond := (.code yX3_text cX3_text 4 (some .int) : Cond) :: tg_
def wX3_write : List Cond := (.code yX3_write cX3_write 2 none : Cond) :: tg_
def wX3_octet : List Cond := (.code yX3_octet cX3_octet 2 (some .int) : Cond) :: tg_
end
section
theorem dX2_init_0 : decode cX2_init 0 = .ok (.aload_n 0, 1) := by decide +kernel
theorem dX2_init_1 : decode cX2_init 1 = .ok (.invokespecial 1, 3) := by decide +kernel
theorem dX2_init_4 : decode cX2_init 4 = .ok (.aload_n 0, 1) := by decide +kernel
theorem dX2_init_5 : decode cX2_init 5 = .ok (.iconst 4, 1) := by decide +kernel
theorem dX2_init_6 : decode cX2_init 6 = .ok (.anewarray 9, 3) := by decide +kernel
theorem dX2_init_9 : decode cX2_init 9 = .ok (.putfield 11, 3) := by decide +kernel
theorem dX2_init_12 : decode cX2_init 12 = .ok (.iconst 0, 1) := by decide +kernel
theorem dX2_init_13 : decode cX2_init 13 = .ok (.istore_n 1, 1) := by decide +kernel
theorem dX2_init_14 : decode cX2_init 14 = .ok (.iload_n 1, 1) := by decide +kernel
theorem dX2_init_15 : decode cX2_init 15 = .ok (.iconst 4, 1) := by decide +kernel
theorem dX2_init_16 : decode cX2_init 16 = .ok (.if_icmp .ge 22, 3) := by decide +kernel
theorem dX2_init_19 : decode cX2_init 19 = .ok (.aload_n 0, 1) := by decide +kernel
theorem dX2_init_20 : decode cX2_init 20 = .ok (.getfield 11, 3) := by decide +kernel
theorem dX2_init_23 : decode cX2_init 23 = .ok (.iload_n 1, 1) := by decide +kernel
theorem dX2_init_24 : decode cX2_init 24 = .ok (.new 9, 3) := by decide +kernel
theorem dX2_init_27 : decode cX2_init 27 = .ok (.dup, 1) := by decide +kernel
theorem dX2_init_28 : decode cX2_init 28 = .ok (.invokespecial 15, 3) := by decide +kernel
theorem dX2_init_31 : decode cX2_init 31 = .ok (.aastore, 1) := by decide +kernel
theorem dX2_init_32 : decode cX2_init 32 = .ok (.iinc 1 1, 3) := by decide +kernel
theorem dX2_init_35 : decode cX2_init 35 = .ok (.goto (-21), 3) := by decide +kernel
theorem dX2_init_38 : decode cX2_init 38 = .ok (.aload_n 0, 1) := by decide +kernel
theorem dX2_init_39 : decode cX2_init 39 = .ok (.new 16, 3) := by decide +kernel
theorem dX2_init_42 : decode cX2_init 42 = .ok (.dup, 1) := by decide +kernel
theorem dX2_init_43 : decode cX2_init 43 = .ok (.invokespecial 18, 3) := by decide +kernel
theorem dX2_init_46 : decode cX2_init 46 = .ok (.putfield 19, 3) := by decide +kernel
theorem dX2_init_49 : decode cX2_init 49 = .ok (.return_, 1) := by decide +kernel
theorem dX0_init_0 : decode cX0_init 0 = .ok (.aload_n 0, 1) := by decide +kernel
theorem dX0_init_1 : decode cX0_init 1 = .ok (.invokespecial 3, 3) := by decide +kernel
theorem dX0_init_4 : decode cX0_init 4 = .ok (.aload_n 0, 1) := by decide +kernel
theorem dX0_init_5 : decode cX0_init 5 = .ok (.bipush 63, 2) := by decide +kernel
theorem dX0_init_7 : decode cX0_init 7 = .ok (.newarray .long, 2) := by decide +kernel
theorem dX0_init_9 : decode cX0_init 9 = .ok (.putfield 11, 3) := by decide +kernel
theorem dX0_init_12 : decode cX0_init 12 = .ok (.return_, 1) := by decide +kernel
theorem dX1_init_0 : decode cX1_init 0 = .ok (.aload_n 0, 1) := by decide +kernel
theorem dX1_init_1 : decode cX1_init 1 = .ok (.invokespecial 3, 3) := by decide +kernel
theorem dX1_init_4 : decode cX1_init 4 = .ok (.aload_n 0, 1) := by decide +kernel
theorem dX1_init_5 : decode cX1_init 5 = .ok (.sipush 530, 3) := by decide +kernel
theorem dX1_init_8 : decode cX1_init 8 = .ok (.newarray .char, 2) := by decide +kernel
theorem dX1_init_10 : decode cX1_init 10 = .ok (.putfield 11, 3) := by decide +kernel
theorem dX1_init_13 : decode cX1_init 13 = .ok (.aload_n 0, 1) := by decide +kernel
theorem dX1_init_14 : decode cX1_init 14 = .ok (.iconst 0, 1) := by decide +kernel
theorem dX1_init_15 : decode cX1_init 15 = .ok (.putfield 15, 3) := by decide +kernel
theorem dX1_init_18 : decode cX1_init 18 = .ok (.return_, 1) := by decide +kernel
theorem dX2_set_0 : decode cX2_set 0 = .ok (.iload_n 1, 1) := by decide +kernel
theorem dX2_set_1 : decode cX2_set 1 = .ok (.invokestatic 23, 3) := by decide +kernel
theorem dX2_set_4 : decode cX2_set 4 = .ok (.ifCond .eq 17, 3) := by decide +kernel
theorem dX2_set_7 : decode cX2_set 7 = .ok (.iload_n 2, 1) := by decide +kernel
theorem dX2_set_8 : decode cX2_set 8 = .ok (.invokestatic 27, 3) := by decide +kernel
theorem dX2_set_11 : decode cX2_set 11 = .ok (.ifCond .eq 10, 3) := by decide +kernel
theorem dX2_set_14 : decode cX2_set 14 = .ok (.iload_n 3, 1) := by decide +kernel
theorem dX2_set_15 : decode cX2_set 15 = .ok (.invokestatic 30, 3) := by decide +kernel
theorem dX2_set_18 : decode cX2_set 18 = .ok (.ifCond .ne 6, 3) := by decide +kernel
theorem dX2_set_21 : decode cX2_set 21 = .ok (.bipush (-2), 2) := by decide +kernel
theorem dX2_set_23 : decode cX2_set 23 = .ok (.ireturn, 1) := by decide +kernel
theorem dX2_set_24 : decode cX2_set 24 = .ok (.aload_n 0, 1) := by decide +kernel
theorem dX2_set_25 : decode cX2_set 25 = .ok (.getfield 11, 3) := by decide +kernel
theorem dX2_set_28 : decode cX2_set 28 = .ok (.iload_n 1, 1) := by decide +kernel
theorem dX2_set_29 : decode cX2_set 29 = .ok (.aaload, 1) := by decide +kernel
theorem dX2_set_30 : decode cX2_set 30 = .ok (.iload_n 3, 1) := by decide +kernel
theorem dX2_set_31 : decode cX2_set 31 = .ok (.invokevirtual 33, 3) := by decide +kernel
theorem dX2_set_34 : decode cX2_set 34 = .ok (.istore 4, 2) := by decide +kernel
theorem dX2_set_36 : decode cX2_set 36 = .ok (.aload_n 0, 1) := by decide +kernel
theorem dX2_set_37 : decode cX2_set 37 = .ok (.getfield 11, 3) := by decide +kernel
theorem dX2_set_40 : decode cX2_set 40 = .ok (.iload_n 1, 1) := by decide +kernel
theorem dX2_set_41 : decode cX2_set 41 = .ok (.aaload, 1) := by decide +kernel
theorem dX2_set_42 : decode cX2_set 42 = .ok (.iload_n 2, 1) := by decide +kernel
theorem dX2_set_43 : decode cX2_set 43 = .ok (.iload_n 3, 1) := by decide +kernel
theorem dX2_set_44 : decode cX2_set 44 = .ok (.iload_n 3, 1) := by decide +kernel
theorem dX2_set_45 : decode cX2_set 45 = .ok (.iconst 1, 1) := by decide +kernel
theorem dX2_set_46 : decode cX2_set 46 = .ok (.iadd, 1) := by decide +kernel
theorem dX2_set_47 : decode cX2_set 47 = .ok (.invokevirtual 37, 3) := by decide +kernel
theorem dX2_set_50 : decode cX2_set 50 = .ok (.iload 4, 2) := by decide +kernel
theorem dX2_set_52 : decode cX2_set 52 = .ok (.ireturn, 1) := by decide +kernel
theorem dX2_isRow_0 : decode cX2_isRow 0 = .ok (.iload_n 0, 1) := by decide +kernel
theorem dX2_isRow_1 : decode cX2_isRow 1 = .ok (.ifCond .lt 12, 3) := by decide +kernel
theorem dX2_isRow_4 : decode cX2_isRow 4 = .ok (.iload_n 0, 1) := by decide +kernel
theorem dX2_isRow_5 : decode cX2_isRow 5 = .ok (.iconst 4, 1) := by decide +kernel
theorem dX2_isRow_6 : decode cX2_isRow 6 = .ok (.if_icmp .ge 7, 3) := by decide +kernel
theorem dX2_isRow_9 : decode cX2_isRow 9 = .ok (.iconst 1, 1) := by decide +kernel
theorem dX2_isRow_10 : decode cX2_isRow 10 = .ok (.goto 4, 3) := by decide +kernel
theorem dX2_isRow_13 : decode cX2_isRow 13 = .ok (.iconst 0, 1) := by decide +kernel
theorem dX2_isRow_14 : decode cX2_isRow 14 = .ok (.ireturn, 1) := by decide +kernel
theorem dX2_isChange_0 : decode cX2_isChange 0 = .ok (.iload_n 0, 1) := by decide +kernel
theorem dX2_isChange_1 : decode cX2_isChange 1 = .ok (.ifCond .lt 12, 3) := by decide +kernel
theorem dX2_isChange_4 : decode cX2_isChange 4 = .ok (.iload_n 0, 1) := by decide +kernel
theorem dX2_isChange_5 : decode cX2_isChange 5 = .ok (.iconst 2, 1) := by decide +kernel
theorem dX2_isChange_6 : decode cX2_isChange 6 = .ok (.if_icmp .gt 7, 3) := by decide +kernel
theorem dX2_isChange_9 : decode cX2_isChange 9 = .ok (.iconst 1, 1) := by decide +kernel
theorem dX2_isChange_10 : decode cX2_isChange 10 = .ok (.goto 4, 3) := by decide +kernel
theorem dX2_isChange_13 : decode cX2_isChange 13 = .ok (.iconst 0, 1) := by decide +kernel
theorem dX2_isChange_14 : decode cX2_isChange 14 = .ok (.ireturn, 1) := by decide +kernel
theorem dX2_isPlace_0 : decode cX2_isPlace 0 = .ok (.iload_n 0, 1) := by decide +kernel
theorem dX2_isPlace_1 : decode cX2_isPlace 1 = .ok (.ifCond .lt 14, 3) := by decide +kernel
theorem dX2_isPlace_4 : decode cX2_isPlace 4 = .ok (.iload_n 0, 1) := by decide +kernel
theorem dX2_isPlace_5 : decode cX2_isPlace 5 = .ok (.sipush 4000, 3) := by decide +kernel
theorem dX2_isPlace_8 : decode cX2_isPlace 8 = .ok (.if_icmp .gt 7, 3) := by decide +kernel
theorem dX2_isPlace_11 : decode cX2_isPlace 11 = .ok (.iconst 1, 1) := by decide +kernel
theorem dX2_isPlace_12 : decode cX2_isPlace 12 = .ok (.goto 4, 3) := by decide +kernel
theorem dX2_isPlace_15 : decode cX2_isPlace 15 = .ok (.iconst 0, 1) := by decide +kernel
theorem dX2_isPlace_16 : decode cX2_isPlace 16 = .ok (.ireturn, 1) := by decide +kernel
theorem dX0_bit_0 : decode cX0_bit 0 = .ok (.aload_n 0, 1) := by decide +kernel
theorem dX0_bit_1 : decode cX0_bit 1 = .ok (.iload_n 1, 1) := by decide +kernel
theorem dX0_bit_2 : decode cX0_bit 2 = .ok (.bipush 6, 2) := by decide +kernel
theorem dX0_bit_4 : decode cX0_bit 4 = .ok (.ishr, 1) := by decide +kernel
theorem dX0_bit_5 : decode cX0_bit 5 = .ok (.invokevirtual 15, 3) := by decide +kernel
theorem dX0_bit_8 : decode cX0_bit 8 = .ok (.iload_n 1, 1) := by decide +kernel
theorem dX0_bit_9 : decode cX0_bit 9 = .ok (.bipush 63, 2) := by decide +kernel
theorem dX0_bit_11 : decode cX0_bit 11 = .ok (.iand, 1) := by decide +kernel
theorem dX0_bit_12 : decode cX0_bit 12 = .ok (.lushr, 1) := by decide +kernel
theorem dX0_bit_13 : decode cX0_bit 13 = .ok (.l2i, 1) := by decide +kernel
theorem dX0_bit_14 : decode cX0_bit 14 = .ok (.iconst 1, 1) := by decide +kernel
theorem dX0_bit_15 : decode cX0_bit 15 = .ok (.iand, 1) := by decide +kernel
theorem dX0_bit_16 : decode cX0_bit 16 = .ok (.ireturn, 1) := by decide +kernel
theorem dX0_wordAt_0 : decode cX0_wordAt 0 = .ok (.iload_n 1, 1) := by decide +kernel
theorem dX0_wordAt_1 : decode cX0_wordAt 1 = .ok (.ifCond .lt 18, 3) := by decide +kernel
theorem dX0_wordAt_4 : decode cX0_wordAt 4 = .ok (.iload_n 1, 1) := by decide +kernel
theorem dX0_wordAt_5 : decode cX0_wordAt 5 = .ok (.bipush 63, 2) := by decide +kernel
theorem dX0_wordAt_7 : decode cX0_wordAt 7 = .ok (.if_icmp .ge 12, 3) := by decide +kernel
theorem dX0_wordAt_10 : decode cX0_wordAt 10 = .ok (.aload_n 0, 1) := by decide +kernel
theorem dX0_wordAt_11 : decode cX0_wordAt 11 = .ok (.getfield 11, 3) := by decide +kernel
theorem dX0_wordAt_14 : decode cX0_wordAt 14 = .ok (.iload_n 1, 1) := by decide +kernel
theorem dX0_wordAt_15 : decode cX0_wordAt 15 = .ok (.laload, 1) := by decide +kernel
theorem dX0_wordAt_16 : decode cX0_wordAt 16 = .ok (.goto 4, 3) := by decide +kernel
theorem dX0_wordAt_19 : decode cX0_wordAt 19 = .ok (.lconst 0, 1) := by decide +kernel
theorem dX0_wordAt_20 : decode cX0_wordAt 20 = .ok (.lreturn, 1) := by decide +kernel
theorem dX0_change_0 : decode cX0_change 0 = .ok (.iconst 0, 1) := by decide +kernel
theorem dX0_change_1 : decode cX0_change 1 = .ok (.istore 4, 2) := by decide +kernel
theorem dX0_change_3 : decode cX0_change 3 = .ok (.iload 4, 2) := by decide +kernel
theorem dX0_change_5 : decode cX0_change 5 = .ok (.bipush 63, 2) := by decide +kernel
theorem dX0_change_7 : decode cX0_change 7 = .ok (.if_icmp .ge 56, 3) := by decide +kernel
theorem dX0_change_10 : decode cX0_change 10 = .ok (.iload_n 3, 1) := by decide +kernel
theorem dX0_change_11 : decode cX0_change 11 = .ok (.bipush 64, 2) := by decide +kernel
theorem dX0_change_13 : decode cX0_change 13 = .ok (.iload 4, 2) := by decide +kernel
theorem dX0_change_15 : decode cX0_change 15 = .ok (.imul, 1) := by decide +kernel
theorem dX0_change_16 : decode cX0_change 16 = .ok (.isub, 1) := by decide +kernel
theorem dX0_change_17 : decode cX0_change 17 = .ok (.invokestatic 29, 3) := by decide +kernel
theorem dX0_change_20 : decode cX0_change 20 = .ok (.iload_n 2, 1) := by decide +kernel
theorem dX0_change_21 : decode cX0_change 21 = .ok (.bipush 64, 2) := by decide +kernel
theorem dX0_change_23 : decode cX0_change 23 = .ok (.iload 4, 2) := by decide +kernel
theorem dX0_change_25 : decode cX0_change 25 = .ok (.imul, 1) := by decide +kernel
theorem dX0_change_26 : decode cX0_change 26 = .ok (.isub, 1) := by decide +kernel
theorem dX0_change_27 : decode cX0_change 27 = .ok (.invokestatic 29, 3) := by decide +kernel
theorem dX0_change_30 : decode cX0_change 30 = .ok (.ldc2_w 32, 3) := by decide +kernel
theorem dX0_change_33 : decode cX0_change 33 = .ok (.lxor, 1) := by decide +kernel
theorem dX0_change_34 : decode cX0_change 34 = .ok (.land, 1) := by decide +kernel
theorem dX0_change_35 : decode cX0_change 35 = .ok (.lstore 5, 2) := by decide +kernel
theorem dX0_change_37 : decode cX0_change 37 = .ok (.aload_n 0, 1) := by decide +kernel
theorem dX0_change_38 : decode cX0_change 38 = .ok (.getfield 11, 3) := by decide +kernel
theorem dX0_change_41 : decode cX0_change 41 = .ok (.iload 4, 2) := by decide +kernel
theorem dX0_change_43 : decode cX0_change 43 = .ok (.aload_n 0, 1) := by decide +kernel
theorem dX0_change_44 : decode cX0_change 44 = .ok (.getfield 11, 3) := by decide +kernel
theorem dX0_change_47 : decode cX0_change 47 = .ok (.iload 4, 2) := by decide +kernel
theorem dX0_change_49 : decode cX0_change 49 = .ok (.laload, 1) := by decide +kernel
theorem dX0_change_50 : decode cX0_change 50 = .ok (.iload_n 1, 1) := by decide +kernel
theorem dX0_change_51 : decode cX0_change 51 = .ok (.lload 5, 2) := by decide +kernel
theorem dX0_change_53 : decode cX0_change 53 = .ok (.invokestatic 34, 3) := by decide +kernel
theorem dX0_change_56 : decode cX0_change 56 = .ok (.lastore, 1) := by decide +kernel
theorem dX0_change_57 : decode cX0_change 57 = .ok (.iinc 4 1, 3) := by decide +kernel
theorem dX0_change_60 : decode cX0_change 60 = .ok (.goto (-57), 3) := by decide +kernel
theorem dX0_change_63 : decode cX0_change 63 = .ok (.return_, 1) := by decide +kernel
theorem dX0_lowBits_0 : decode cX0_lowBits 0 = .ok (.iload_n 0, 1) := by decide +kernel
theorem dX0_lowBits_1 : decode cX0_lowBits 1 = .ok (.ifCond .gt 5, 3) := by decide +kernel
theorem dX0_lowBits_4 : decode cX0_lowBits 4 = .ok (.lconst 0, 1) := by decide +kernel
theorem dX0_lowBits_5 : decode cX0_lowBits 5 = .ok (.lreturn, 1) := by decide +kernel
theorem dX0_lowBits_6 : decode cX0_lowBits 6 = .ok (.iload_n 0, 1) := by decide +kernel
theorem dX0_lowBits_7 : decode cX0_lowBits 7 = .ok (.bipush 64, 2) := by decide +kernel
theorem dX0_lowBits_9 : decode cX0_lowBits 9 = .ok (.if_icmp .lt 9, 3) := by decide +kernel
theorem dX0_lowBits_12 : decode cX0_lowBits 12 = .ok (.ldc2_w 32, 3) := by decide +kernel
theorem dX0_lowBits_15 : decode cX0_lowBits 15 = .ok (.goto 8, 3) := by decide +kernel
theorem dX0_lowBits_18 : decode cX0_lowBits 18 = .ok (.lconst 1, 1) := by decide +kernel
theorem dX0_lowBits_19 : decode cX0_lowBits 19 = .ok (.iload_n 0, 1) := by decide +kernel
theorem dX0_lowBits_20 : decode cX0_lowBits 20 = .ok (.lshl, 1) := by decide +kernel
theorem dX0_lowBits_21 : decode cX0_lowBits 21 = .ok (.lconst 1, 1) := by decide +kernel
theorem dX0_lowBits_22 : decode cX0_lowBits 22 = .ok (.lsub, 1) := by decide +kernel
theorem dX0_lowBits_23 : decode cX0_lowBits 23 = .ok (.lreturn, 1) := by decide +kernel
theorem dX0_changed_0 : decode cX0_changed 0 = .ok (.iload_n 2, 1) := by decide +kernel
theorem dX0_changed_1 : decode cX0_changed 1 = .ok (.lookupswitch 39 #[(0, 27), (1, 35)], 27) := by decide +kernel
theorem dX0_changed_28 : decode cX0_changed 28 = .ok (.lload_n 0, 1) := by decide +kernel
theorem dX0_changed_29 : decode cX0_changed 29 = .ok (.lload_n 3, 1) := by decide +kernel
theorem dX0_changed_30 : decode cX0_changed 30 = .ok (.ldc2_w 32, 3) := by decide +kernel
theorem dX0_changed_33 : decode cX0_changed 33 = .ok (.lxor, 1) := by decide +kernel
theorem dX0_changed_34 : decode cX0_changed 34 = .ok (.land, 1) := by decide +kernel
theorem dX0_changed_35 : decode cX0_changed 35 = .ok (.lreturn, 1) := by decide +kernel
theorem dX0_changed_36 : decode cX0_changed 36 = .ok (.lload_n 0, 1) := by decide +kernel
theorem dX0_changed_37 : decode cX0_changed 37 = .ok (.lload_n 3, 1) := by decide +kernel
theorem dX0_changed_38 : decode cX0_changed 38 = .ok (.lor, 1) := by decide +kernel
theorem dX0_changed_39 : decode cX0_changed 39 = .ok (.lreturn, 1) := by decide +kernel
theorem dX0_changed_40 : decode cX0_changed 40 = .ok (.lload_n 0, 1) := by decide +kernel
theorem dX0_changed_41 : decode cX0_changed 41 = .ok (.lload_n 3, 1) := by decide +kernel
theorem dX0_changed_42 : decode cX0_changed 42 = .ok (.lxor, 1) := by decide +kernel
theorem dX0_changed_43 : decode cX0_changed 43 = .ok (.lreturn, 1) := by decide +kernel
theorem dX2_piece_0 : decode cX2_piece 0 = .ok (.iload_n 1, 1) := by decide +kernel
theorem dX2_piece_1 : decode cX2_piece 1 = .ok (.invokestatic 23, 3) := by decide +kernel
theorem dX2_piece_4 : decode cX2_piece 4 = .ok (.ifCond .eq 19, 3) := by decide +kernel
theorem dX2_piece_7 : decode cX2_piece 7 = .ok (.iload_n 2, 1) := by decide +kernel
theorem dX2_piece_8 : decode cX2_piece 8 = .ok (.invokestatic 27, 3) := by decide +kernel
theorem dX2_piece_11 : decode cX2_piece 11 = .ok (.ifCond .eq 12, 3) := by decide +kernel
theorem dX2_piece_14 : decode cX2_piece 14 = .ok (.iload_n 3, 1) := by decide +kernel
theorem dX2_piece_15 : decode cX2_piece 15 = .ok (.iload 4, 2) := by decide +kernel
theorem dX2_piece_17 : decode cX2_piece 17 = .ok (.invokestatic 41, 3) := by decide +kernel
theorem dX2_piece_20 : decode cX2_piece 20 = .ok (.ifCond .ne 6, 3) := by decide +kernel
theorem dX2_piece_23 : decode cX2_piece 23 = .ok (.bipush (-2), 2) := by decide +kernel
theorem dX2_piece_25 : decode cX2_piece 25 = .ok (.ireturn, 1) := by decide +kernel
theorem dX2_piece_26 : decode cX2_piece 26 = .ok (.aload_n 0, 1) := by decide +kernel
theorem dX2_piece_27 : decode cX2_piece 27 = .ok (.getfield 11, 3) := by decide +kernel
theorem dX2_piece_30 : decode cX2_piece 30 = .ok (.iload_n 1, 1) := by decide +kernel
theorem dX2_piece_31 : decode cX2_piece 31 = .ok (.aaload, 1) := by decide +kernel
theorem dX2_piece_32 : decode cX2_piece 32 = .ok (.iload_n 2, 1) := by decide +kernel
theorem dX2_piece_33 : decode cX2_piece 33 = .ok (.iload_n 3, 1) := by decide +kernel
theorem dX2_piece_34 : decode cX2_piece 34 = .ok (.iload 4, 2) := by decide +kernel
theorem dX2_piece_36 : decode cX2_piece 36 = .ok (.invokevirtual 37, 3) := by decide +kernel
theorem dX2_piece_39 : decode cX2_piece 39 = .ok (.aload_n 0, 1) := by decide +kernel
theorem dX2_piece_40 : decode cX2_piece 40 = .ok (.getfield 11, 3) := by decide +kernel
theorem dX2_piece_43 : decode cX2_piece 43 = .ok (.iload_n 1, 1) := by decide +kernel
theorem dX2_piece_44 : decode cX2_piece 44 = .ok (.aaload, 1) := by decide +kernel
theorem dX2_piece_45 : decode cX2_piece 45 = .ok (.invokevirtual 45, 3) := by decide +kernel
theorem dX2_piece_48 : decode cX2_piece 48 = .ok (.ireturn, 1) := by decide +kernel
theorem dX2_isPiece_0 : decode cX2_isPiece 0 = .ok (.iload_n 0, 1) := by decide +kernel
theorem dX2_isPiece_1 : decode cX2_isPiece 1 = .ok (.ifCond .lt 19, 3) := by decide +kernel
theorem dX2_isPiece_4 : decode cX2_isPiece 4 = .ok (.iload_n 0, 1) := by decide +kernel
theorem dX2_isPiece_5 : decode cX2_isPiece 5 = .ok (.iload_n 1, 1) := by decide +kernel
theorem dX2_isPiece_6 : decode cX2_isPiece 6 = .ok (.if_icmp .gt 14, 3) := by decide +kernel
theorem dX2_isPiece_9 : decode cX2_isPiece 9 = .ok (.iload_n 1, 1) := by decide +kernel
theorem dX2_isPiece_10 : decode cX2_isPiece 10 = .ok (.sipush 4001, 3) := by decide +kernel
theorem dX2_isPiece_13 : decode cX2_isPiece 13 = .ok (.if_icmp .gt 7, 3) := by decide +kernel
theorem dX2_isPiece_16 : decode cX2_isPiece 16 = .ok (.iconst 1, 1) := by decide +kernel
theorem dX2_isPiece_17 : decode cX2_isPiece 17 = .ok (.goto 4, 3) := by decide +kernel
theorem dX2_isPiece_20 : decode cX2_isPiece 20 = .ok (.iconst 0, 1) := by decide +kernel
theorem dX2_isPiece_21 : decode cX2_isPiece 21 = .ok (.ireturn, 1) := by decide +kernel
theorem dX0_ones_0 : decode cX0_ones 0 = .ok (.iconst 0, 1) := by decide +kernel
theorem dX0_ones_1 : decode cX0_ones 1 = .ok (.istore_n 1, 1) := by decide +kernel
theorem dX0_ones_2 : decode cX0_ones 2 = .ok (.iconst 0, 1) := by decide +kernel
theorem dX0_ones_3 : decode cX0_ones 3 = .ok (.istore_n 2, 1) := by decide +kernel
theorem dX0_ones_4 : decode cX0_ones 4 = .ok (.iload_n 2, 1) := by decide +kernel
theorem dX0_ones_5 : decode cX0_ones 5 = .ok (.bipush 63, 2) := by decide +kernel
theorem dX0_ones_7 : decode cX0_ones 7 = .ok (.if_icmp .ge 21, 3) := by decide +kernel
theorem dX0_ones_10 : decode cX0_ones 10 = .ok (.iload_n 1, 1) := by decide +kernel
theorem dX0_ones_11 : decode cX0_ones 11 = .ok (.aload_n 0, 1) := by decide +kernel
theorem dX0_ones_12 : decode cX0_ones 12 = .ok (.getfield 11, 3) := by decide +kernel
theorem dX0_ones_15 : decode cX0_ones 15 = .ok (.iload_n 2, 1) := by decide +kernel
theorem dX0_ones_16 : decode cX0_ones 16 = .ok (.laload, 1) := by decide +kernel
theorem dX0_ones_17 : decode cX0_ones 17 = .ok (.invokestatic 19, 3) := by decide +kernel
theorem dX0_ones_20 : decode cX0_ones 20 = .ok (.iadd, 1) := by decide +kernel
theorem dX0_ones_21 : decode cX0_ones 21 = .ok (.istore_n 1, 1) := by decide +kernel
theorem dX0_ones_22 : decode cX0_ones 22 = .ok (.iinc 2 1, 3) := by decide +kernel
theorem dX0_ones_25 : decode cX0_ones 25 = .ok (.goto (-21), 3) := by decide +kernel
theorem dX0_ones_28 : decode cX0_ones 28 = .ok (.iload_n 1, 1) := by decide +kernel
theorem dX0_ones_29 : decode cX0_ones 29 = .ok (.ireturn, 1) := by decide +kernel
theorem dJ7_bitCount_0 : decode cJ7_bitCount 0 = .ok (.lload_n 0, 1) := by decide +kernel
theorem dJ7_bitCount_1 : decode cJ7_bitCount 1 = .ok (.lload_n 0, 1) := by decide +kernel
theorem dJ7_bitCount_2 : decode cJ7_bitCount 2 = .ok (.iconst 1, 1) := by decide +kernel
theorem dJ7_bitCount_3 : decode cJ7_bitCount 3 = .ok (.lushr, 1) := by decide +kernel
theorem dJ7_bitCount_4 : decode cJ7_bitCount 4 = .ok (.ldc2_w 314, 3) := by decide +kernel
theorem dJ7_bitCount_7 : decode cJ7_bitCount 7 = .ok (.land, 1) := by decide +kernel
theorem dJ7_bitCount_8 : decode cJ7_bitCount 8 = .ok (.lsub, 1) := by decide +kernel
theorem dJ7_bitCount_9 : decode cJ7_bitCount 9 = .ok (.lstore_n 0, 1) := by decide +kernel
theorem dJ7_bitCount_10 : decode cJ7_bitCount 10 = .ok (.lload_n 0, 1) := by decide +kernel
theorem dJ7_bitCount_11 : decode cJ7_bitCount 11 = .ok (.ldc2_w 316, 3) := by decide +kernel
theorem dJ7_bitCount_14 : decode cJ7_bitCount 14 = .ok (.land, 1) := by decide +kernel
theorem dJ7_bitCount_15 : decode cJ7_bitCount 15 = .ok (.lload_n 0, 1) := by decide +kernel
theorem dJ7_bitCount_16 : decode cJ7_bitCount 16 = .ok (.iconst 2, 1) := by decide +kernel
theorem dJ7_bitCount_17 : decode cJ7_bitCount 17 = .ok (.lushr, 1) := by decide +kernel
theorem dJ7_bitCount_18 : decode cJ7_bitCount 18 = .ok (.ldc2_w 316, 3) := by decide +kernel
theorem dJ7_bitCount_21 : decode cJ7_bitCount 21 = .ok (.land, 1) := by decide +kernel
theorem dJ7_bitCount_22 : decode cJ7_bitCount 22 = .ok (.ladd, 1) := by decide +kernel
theorem dJ7_bitCount_23 : decode cJ7_bitCount 23 = .ok (.lstore_n 0, 1) := by decide +kernel
theorem dJ7_bitCount_24 : decode cJ7_bitCount 24 = .ok (.lload_n 0, 1) := by decide +kernel
theorem dJ7_bitCount_25 : decode cJ7_bitCount 25 = .ok (.lload_n 0, 1) := by decide +kernel
theorem dJ7_bitCount_26 : decode cJ7_bitCount 26 = .ok (.iconst 4, 1) := by decide +kernel
theorem dJ7_bitCount_27 : decode cJ7_bitCount 27 = .ok (.lushr, 1) := by decide +kernel
theorem dJ7_bitCount_28 : decode cJ7_bitCount 28 = .ok (.ladd, 1) := by decide +kernel
theorem dJ7_bitCount_29 : decode cJ7_bitCount 29 = .ok (.ldc2_w 318, 3) := by decide +kernel
theorem dJ7_bitCount_32 : decode cJ7_bitCount 32 = .ok (.land, 1) := by decide +kernel
theorem dJ7_bitCount_33 : decode cJ7_bitCount 33 = .ok (.lstore_n 0, 1) := by decide +kernel
theorem dJ7_bitCount_34 : decode cJ7_bitCount 34 = .ok (.lload_n 0, 1) := by decide +kernel
theorem dJ7_bitCount_35 : decode cJ7_bitCount 35 = .ok (.lload_n 0, 1) := by decide +kernel
theorem dJ7_bitCount_36 : decode cJ7_bitCount 36 = .ok (.bipush 8, 2) := by decide +kernel
theorem dJ7_bitCount_38 : decode cJ7_bitCount 38 = .ok (.lushr, 1) := by decide +kernel
theorem dJ7_bitCount_39 : decode cJ7_bitCount 39 = .ok (.ladd, 1) := by decide +kernel
theorem dJ7_bitCount_40 : decode cJ7_bitCount 40 = .ok (.lstore_n 0, 1) := by decide +kernel
theorem dJ7_bitCount_41 : decode cJ7_bitCount 41 = .ok (.lload_n 0, 1) := by decide +kernel
theorem dJ7_bitCount_42 : decode cJ7_bitCount 42 = .ok (.lload_n 0, 1) := by decide +kernel
theorem dJ7_bitCount_43 : decode cJ7_bitCount 43 = .ok (.bipush 16, 2) := by decide +kernel
theorem dJ7_bitCount_45 : decode cJ7_bitCount 45 = .ok (.lushr, 1) := by decide +kernel
theorem dJ7_bitCount_46 : decode cJ7_bitCount 46 = .ok (.ladd, 1) := by decide +kernel
theorem dJ7_bitCount_47 : decode cJ7_bitCount 47 = .ok (.lstore_n 0, 1) := by decide +kernel
theorem dJ7_bitCount_48 : decode cJ7_bitCount 48 = .ok (.lload_n 0, 1) := by decide +kernel
theorem dJ7_bitCount_49 : decode cJ7_bitCount 49 = .ok (.lload_n 0, 1) := by decide +kernel
theorem dJ7_bitCount_50 : decode cJ7_bitCount 50 = .ok (.bipush 32, 2) := by decide +kernel
theorem dJ7_bitCount_52 : decode cJ7_bitCount 52 = .ok (.lushr, 1) := by decide +kernel
theorem dJ7_bitCount_53 : decode cJ7_bitCount 53 = .ok (.ladd, 1) := by decide +kernel
theorem dJ7_bitCount_54 : decode cJ7_bitCount 54 = .ok (.lstore_n 0, 1) := by decide +kernel
theorem dJ7_bitCount_55 : decode cJ7_bitCount 55 = .ok (.lload_n 0, 1) := by decide +kernel
theorem dJ7_bitCount_56 : decode cJ7_bitCount 56 = .ok (.l2i, 1) := by decide +kernel
theorem dJ7_bitCount_57 : decode cJ7_bitCount 57 = .ok (.bipush 127, 2) := by decide +kernel
theorem dJ7_bitCount_59 : decode cJ7_bitCount 59 = .ok (.iand, 1) := by decide +kernel
theorem dJ7_bitCount_60 : decode cJ7_bitCount 60 = .ok (.ireturn, 1) := by decide +kernel
theorem dX2_get_0 : decode cX2_get 0 = .ok (.iload_n 1, 1) := by decide +kernel
theorem dX2_get_1 : decode cX2_get 1 = .ok (.invokestatic 23, 3) := by decide +kernel
theorem dX2_get_4 : decode cX2_get 4 = .ok (.ifCond .eq 10, 3) := by decide +kernel
end
section
theorem dX2_get_7 : decode cX2_get 7 = .ok (.iload_n 2, 1) := by decide +kernel
theorem dX2_get_8 : decode cX2_get 8 = .ok (.invokestatic 30, 3) := by decide +kernel
theorem dX2_get_11 : decode cX2_get 11 = .ok (.ifCond .ne 6, 3) := by decide +kernel
theorem dX2_get_14 : decode cX2_get 14 = .ok (.bipush (-2), 2) := by decide +kernel
theorem dX2_get_16 : decode cX2_get 16 = .ok (.ireturn, 1) := by decide +kernel
theorem dX2_get_17 : decode cX2_get 17 = .ok (.aload_n 0, 1) := by decide +kernel
theorem dX2_get_18 : decode cX2_get 18 = .ok (.getfield 11, 3) := by decide +kernel
theorem dX2_get_21 : decode cX2_get 21 = .ok (.iload_n 1, 1) := by decide +kernel
theorem dX2_get_22 : decode cX2_get 22 = .ok (.aaload, 1) := by decide +kernel
theorem dX2_get_23 : decode cX2_get 23 = .ok (.iload_n 2, 1) := by decide +kernel
theorem dX2_get_24 : decode cX2_get 24 = .ok (.invokevirtual 33, 3) := by decide +kernel
theorem dX2_get_27 : decode cX2_get 27 = .ok (.ireturn, 1) := by decide +kernel
theorem dX2_next_0 : decode cX2_next 0 = .ok (.iload_n 1, 1) := by decide +kernel
theorem dX2_next_1 : decode cX2_next 1 = .ok (.invokestatic 23, 3) := by decide +kernel
theorem dX2_next_4 : decode cX2_next 4 = .ok (.ifCond .eq 10, 3) := by decide +kernel
theorem dX2_next_7 : decode cX2_next 7 = .ok (.iload_n 3, 1) := by decide +kernel
theorem dX2_next_8 : decode cX2_next 8 = .ok (.invokestatic 30, 3) := by decide +kernel
theorem dX2_next_11 : decode cX2_next 11 = .ok (.ifCond .ne 6, 3) := by decide +kernel
theorem dX2_next_14 : decode cX2_next 14 = .ok (.bipush (-2), 2) := by decide +kernel
theorem dX2_next_16 : decode cX2_next 16 = .ok (.ireturn, 1) := by decide +kernel
theorem dX2_next_17 : decode cX2_next 17 = .ok (.iload_n 2, 1) := by decide +kernel
theorem dX2_next_18 : decode cX2_next 18 = .ok (.tableswitch 82 0 3 #[30, 42, 56, 68], 30) := by decide +kernel
theorem dX2_next_48 : decode cX2_next 48 = .ok (.aload_n 0, 1) := by decide +kernel
theorem dX2_next_49 : decode cX2_next 49 = .ok (.getfield 11, 3) := by decide +kernel
theorem dX2_next_52 : decode cX2_next 52 = .ok (.iload_n 1, 1) := by decide +kernel
theorem dX2_next_53 : decode cX2_next 53 = .ok (.aaload, 1) := by decide +kernel
theorem dX2_next_54 : decode cX2_next 54 = .ok (.iload_n 3, 1) := by decide +kernel
theorem dX2_next_55 : decode cX2_next 55 = .ok (.lconst 0, 1) := by decide +kernel
theorem dX2_next_56 : decode cX2_next 56 = .ok (.invokevirtual 49, 3) := by decide +kernel
theorem dX2_next_59 : decode cX2_next 59 = .ok (.ireturn, 1) := by decide +kernel
theorem dX2_next_60 : decode cX2_next 60 = .ok (.aload_n 0, 1) := by decide +kernel
theorem dX2_next_61 : decode cX2_next 61 = .ok (.getfield 11, 3) := by decide +kernel
theorem dX2_next_64 : decode cX2_next 64 = .ok (.iload_n 1, 1) := by decide +kernel
theorem dX2_next_65 : decode cX2_next 65 = .ok (.aaload, 1) := by decide +kernel
theorem dX2_next_66 : decode cX2_next 66 = .ok (.iload_n 3, 1) := by decide +kernel
theorem dX2_next_67 : decode cX2_next 67 = .ok (.ldc2_w 53, 3) := by decide +kernel
theorem dX2_next_70 : decode cX2_next 70 = .ok (.invokevirtual 49, 3) := by decide +kernel
theorem dX2_next_73 : decode cX2_next 73 = .ok (.ireturn, 1) := by decide +kernel
theorem dX2_next_74 : decode cX2_next 74 = .ok (.aload_n 0, 1) := by decide +kernel
theorem dX2_next_75 : decode cX2_next 75 = .ok (.getfield 11, 3) := by decide +kernel
theorem dX2_next_78 : decode cX2_next 78 = .ok (.iload_n 1, 1) := by decide +kernel
theorem dX2_next_79 : decode cX2_next 79 = .ok (.aaload, 1) := by decide +kernel
theorem dX2_next_80 : decode cX2_next 80 = .ok (.iload_n 3, 1) := by decide +kernel
theorem dX2_next_81 : decode cX2_next 81 = .ok (.lconst 0, 1) := by decide +kernel
theorem dX2_next_82 : decode cX2_next 82 = .ok (.invokevirtual 55, 3) := by decide +kernel
theorem dX2_next_85 : decode cX2_next 85 = .ok (.ireturn, 1) := by decide +kernel
theorem dX2_next_86 : decode cX2_next 86 = .ok (.aload_n 0, 1) := by decide +kernel
theorem dX2_next_87 : decode cX2_next 87 = .ok (.getfield 11, 3) := by decide +kernel
theorem dX2_next_90 : decode cX2_next 90 = .ok (.iload_n 1, 1) := by decide +kernel
theorem dX2_next_91 : decode cX2_next 91 = .ok (.aaload, 1) := by decide +kernel
theorem dX2_next_92 : decode cX2_next 92 = .ok (.iload_n 3, 1) := by decide +kernel
theorem dX2_next_93 : decode cX2_next 93 = .ok (.ldc2_w 53, 3) := by decide +kernel
theorem dX2_next_96 : decode cX2_next 96 = .ok (.invokevirtual 55, 3) := by decide +kernel
theorem dX2_next_99 : decode cX2_next 99 = .ok (.ireturn, 1) := by decide +kernel
theorem dX2_next_100 : decode cX2_next 100 = .ok (.bipush (-2), 2) := by decide +kernel
theorem dX2_next_102 : decode cX2_next 102 = .ok (.ireturn, 1) := by decide +kernel
theorem dX0_firstFrom_0 : decode cX0_firstFrom 0 = .ok (.iconst 0, 1) := by decide +kernel
theorem dX0_firstFrom_1 : decode cX0_firstFrom 1 = .ok (.istore 4, 2) := by decide +kernel
theorem dX0_firstFrom_3 : decode cX0_firstFrom 3 = .ok (.iload 4, 2) := by decide +kernel
theorem dX0_firstFrom_5 : decode cX0_firstFrom 5 = .ok (.bipush 63, 2) := by decide +kernel
theorem dX0_firstFrom_7 : decode cX0_firstFrom 7 = .ok (.if_icmp .ge 54, 3) := by decide +kernel
theorem dX0_firstFrom_10 : decode cX0_firstFrom 10 = .ok (.aload_n 0, 1) := by decide +kernel
theorem dX0_firstFrom_11 : decode cX0_firstFrom 11 = .ok (.getfield 11, 3) := by decide +kernel
theorem dX0_firstFrom_14 : decode cX0_firstFrom 14 = .ok (.iload 4, 2) := by decide +kernel
theorem dX0_firstFrom_16 : decode cX0_firstFrom 16 = .ok (.laload, 1) := by decide +kernel
theorem dX0_firstFrom_17 : decode cX0_firstFrom 17 = .ok (.lload_n 2, 1) := by decide +kernel
theorem dX0_firstFrom_18 : decode cX0_firstFrom 18 = .ok (.lxor, 1) := by decide +kernel
theorem dX0_firstFrom_19 : decode cX0_firstFrom 19 = .ok (.iload_n 1, 1) := by decide +kernel
theorem dX0_firstFrom_20 : decode cX0_firstFrom 20 = .ok (.bipush 64, 2) := by decide +kernel
theorem dX0_firstFrom_22 : decode cX0_firstFrom 22 = .ok (.iload 4, 2) := by decide +kernel
theorem dX0_firstFrom_24 : decode cX0_firstFrom 24 = .ok (.imul, 1) := by decide +kernel
theorem dX0_firstFrom_25 : decode cX0_firstFrom 25 = .ok (.isub, 1) := by decide +kernel
theorem dX0_firstFrom_26 : decode cX0_firstFrom 26 = .ok (.invokestatic 29, 3) := by decide +kernel
theorem dX0_firstFrom_29 : decode cX0_firstFrom 29 = .ok (.ldc2_w 32, 3) := by decide +kernel
theorem dX0_firstFrom_32 : decode cX0_firstFrom 32 = .ok (.lxor, 1) := by decide +kernel
theorem dX0_firstFrom_33 : decode cX0_firstFrom 33 = .ok (.land, 1) := by decide +kernel
theorem dX0_firstFrom_34 : decode cX0_firstFrom 34 = .ok (.lstore 5, 2) := by decide +kernel
theorem dX0_firstFrom_36 : decode cX0_firstFrom 36 = .ok (.lload 5, 2) := by decide +kernel
theorem dX0_firstFrom_38 : decode cX0_firstFrom 38 = .ok (.lconst 0, 1) := by decide +kernel
theorem dX0_firstFrom_39 : decode cX0_firstFrom 39 = .ok (.lcmp, 1) := by decide +kernel
theorem dX0_firstFrom_40 : decode cX0_firstFrom 40 = .ok (.ifCond .eq 15, 3) := by decide +kernel
theorem dX0_firstFrom_43 : decode cX0_firstFrom 43 = .ok (.bipush 64, 2) := by decide +kernel
theorem dX0_firstFrom_45 : decode cX0_firstFrom 45 = .ok (.iload 4, 2) := by decide +kernel
theorem dX0_firstFrom_47 : decode cX0_firstFrom 47 = .ok (.imul, 1) := by decide +kernel
theorem dX0_firstFrom_48 : decode cX0_firstFrom 48 = .ok (.lload 5, 2) := by decide +kernel
theorem dX0_firstFrom_50 : decode cX0_firstFrom 50 = .ok (.invokestatic 38, 3) := by decide +kernel
theorem dX0_firstFrom_53 : decode cX0_firstFrom 53 = .ok (.iadd, 1) := by decide +kernel
theorem dX0_firstFrom_54 : decode cX0_firstFrom 54 = .ok (.ireturn, 1) := by decide +kernel
theorem dX0_firstFrom_55 : decode cX0_firstFrom 55 = .ok (.iinc 4 1, 3) := by decide +kernel
theorem dX0_firstFrom_58 : decode cX0_firstFrom 58 = .ok (.goto (-55), 3) := by decide +kernel
theorem dX0_firstFrom_61 : decode cX0_firstFrom 61 = .ok (.iconst (-1), 1) := by decide +kernel
theorem dX0_firstFrom_62 : decode cX0_firstFrom 62 = .ok (.ireturn, 1) := by decide +kernel
theorem dJ7_numberOfTrailingZeros_0 : decode cJ7_numberOfTrailingZeros 0 = .ok (.lload_n 0, 1) := by decide +kernel
theorem dJ7_numberOfTrailingZeros_1 : decode cJ7_numberOfTrailingZeros 1 = .ok (.l2i, 1) := by decide +kernel
theorem dJ7_numberOfTrailingZeros_2 : decode cJ7_numberOfTrailingZeros 2 = .ok (.istore_n 2, 1) := by decide +kernel
theorem dJ7_numberOfTrailingZeros_3 : decode cJ7_numberOfTrailingZeros 3 = .ok (.iload_n 2, 1) := by decide +kernel
theorem dJ7_numberOfTrailingZeros_4 : decode cJ7_numberOfTrailingZeros 4 = .ok (.ifCond .ne 17, 3) := by decide +kernel
theorem dJ7_numberOfTrailingZeros_7 : decode cJ7_numberOfTrailingZeros 7 = .ok (.bipush 32, 2) := by decide +kernel
theorem dJ7_numberOfTrailingZeros_9 : decode cJ7_numberOfTrailingZeros 9 = .ok (.lload_n 0, 1) := by decide +kernel
theorem dJ7_numberOfTrailingZeros_10 : decode cJ7_numberOfTrailingZeros 10 = .ok (.bipush 32, 2) := by decide +kernel
theorem dJ7_numberOfTrailingZeros_12 : decode cJ7_numberOfTrailingZeros 12 = .ok (.lushr, 1) := by decide +kernel
theorem dJ7_numberOfTrailingZeros_13 : decode cJ7_numberOfTrailingZeros 13 = .ok (.l2i, 1) := by decide +kernel
theorem dJ7_numberOfTrailingZeros_14 : decode cJ7_numberOfTrailingZeros 14 = .ok (.invokestatic 311, 3) := by decide +kernel
theorem dJ7_numberOfTrailingZeros_17 : decode cJ7_numberOfTrailingZeros 17 = .ok (.iadd, 1) := by decide +kernel
theorem dJ7_numberOfTrailingZeros_18 : decode cJ7_numberOfTrailingZeros 18 = .ok (.goto 7, 3) := by decide +kernel
theorem dJ7_numberOfTrailingZeros_21 : decode cJ7_numberOfTrailingZeros 21 = .ok (.iload_n 2, 1) := by decide +kernel
theorem dJ7_numberOfTrailingZeros_22 : decode cJ7_numberOfTrailingZeros 22 = .ok (.invokestatic 311, 3) := by decide +kernel
theorem dJ7_numberOfTrailingZeros_25 : decode cJ7_numberOfTrailingZeros 25 = .ok (.ireturn, 1) := by decide +kernel
theorem dJ6_numberOfTrailingZeros_0 : decode cJ6_numberOfTrailingZeros 0 = .ok (.iload_n 0, 1) := by decide +kernel
theorem dJ6_numberOfTrailingZeros_1 : decode cJ6_numberOfTrailingZeros 1 = .ok (.iconst (-1), 1) := by decide +kernel
theorem dJ6_numberOfTrailingZeros_2 : decode cJ6_numberOfTrailingZeros 2 = .ok (.ixor, 1) := by decide +kernel
theorem dJ6_numberOfTrailingZeros_3 : decode cJ6_numberOfTrailingZeros 3 = .ok (.iload_n 0, 1) := by decide +kernel
theorem dJ6_numberOfTrailingZeros_4 : decode cJ6_numberOfTrailingZeros 4 = .ok (.iconst 1, 1) := by decide +kernel
theorem dJ6_numberOfTrailingZeros_5 : decode cJ6_numberOfTrailingZeros 5 = .ok (.isub, 1) := by decide +kernel
theorem dJ6_numberOfTrailingZeros_6 : decode cJ6_numberOfTrailingZeros 6 = .ok (.iand, 1) := by decide +kernel
theorem dJ6_numberOfTrailingZeros_7 : decode cJ6_numberOfTrailingZeros 7 = .ok (.istore_n 0, 1) := by decide +kernel
theorem dJ6_numberOfTrailingZeros_8 : decode cJ6_numberOfTrailingZeros 8 = .ok (.iload_n 0, 1) := by decide +kernel
theorem dJ6_numberOfTrailingZeros_9 : decode cJ6_numberOfTrailingZeros 9 = .ok (.ifCond .gt 8, 3) := by decide +kernel
theorem dJ6_numberOfTrailingZeros_12 : decode cJ6_numberOfTrailingZeros 12 = .ok (.iload_n 0, 1) := by decide +kernel
theorem dJ6_numberOfTrailingZeros_13 : decode cJ6_numberOfTrailingZeros 13 = .ok (.bipush 32, 2) := by decide +kernel
theorem dJ6_numberOfTrailingZeros_15 : decode cJ6_numberOfTrailingZeros 15 = .ok (.iand, 1) := by decide +kernel
theorem dJ6_numberOfTrailingZeros_16 : decode cJ6_numberOfTrailingZeros 16 = .ok (.ireturn, 1) := by decide +kernel
theorem dJ6_numberOfTrailingZeros_17 : decode cJ6_numberOfTrailingZeros 17 = .ok (.iconst 1, 1) := by decide +kernel
theorem dJ6_numberOfTrailingZeros_18 : decode cJ6_numberOfTrailingZeros 18 = .ok (.istore_n 1, 1) := by decide +kernel
theorem dJ6_numberOfTrailingZeros_19 : decode cJ6_numberOfTrailingZeros 19 = .ok (.iload_n 0, 1) := by decide +kernel
theorem dJ6_numberOfTrailingZeros_20 : decode cJ6_numberOfTrailingZeros 20 = .ok (.ldc_w 264, 3) := by decide +kernel
theorem dJ6_numberOfTrailingZeros_23 : decode cJ6_numberOfTrailingZeros 23 = .ok (.if_icmp .le 11, 3) := by decide +kernel
theorem dJ6_numberOfTrailingZeros_26 : decode cJ6_numberOfTrailingZeros 26 = .ok (.iinc 1 16, 3) := by decide +kernel
theorem dJ6_numberOfTrailingZeros_29 : decode cJ6_numberOfTrailingZeros 29 = .ok (.iload_n 0, 1) := by decide +kernel
theorem dJ6_numberOfTrailingZeros_30 : decode cJ6_numberOfTrailingZeros 30 = .ok (.bipush 16, 2) := by decide +kernel
theorem dJ6_numberOfTrailingZeros_32 : decode cJ6_numberOfTrailingZeros 32 = .ok (.iushr, 1) := by decide +kernel
theorem dJ6_numberOfTrailingZeros_33 : decode cJ6_numberOfTrailingZeros 33 = .ok (.istore_n 0, 1) := by decide +kernel
theorem dJ6_numberOfTrailingZeros_34 : decode cJ6_numberOfTrailingZeros 34 = .ok (.iload_n 0, 1) := by decide +kernel
theorem dJ6_numberOfTrailingZeros_35 : decode cJ6_numberOfTrailingZeros 35 = .ok (.sipush 256, 3) := by decide +kernel
theorem dJ6_numberOfTrailingZeros_38 : decode cJ6_numberOfTrailingZeros 38 = .ok (.if_icmp .le 11, 3) := by decide +kernel
theorem dJ6_numberOfTrailingZeros_41 : decode cJ6_numberOfTrailingZeros 41 = .ok (.iinc 1 8, 3) := by decide +kernel
theorem dJ6_numberOfTrailingZeros_44 : decode cJ6_numberOfTrailingZeros 44 = .ok (.iload_n 0, 1) := by decide +kernel
theorem dJ6_numberOfTrailingZeros_45 : decode cJ6_numberOfTrailingZeros 45 = .ok (.bipush 8, 2) := by decide +kernel
theorem dJ6_numberOfTrailingZeros_47 : decode cJ6_numberOfTrailingZeros 47 = .ok (.iushr, 1) := by decide +kernel
theorem dJ6_numberOfTrailingZeros_48 : decode cJ6_numberOfTrailingZeros 48 = .ok (.istore_n 0, 1) := by decide +kernel
theorem dJ6_numberOfTrailingZeros_49 : decode cJ6_numberOfTrailingZeros 49 = .ok (.iload_n 0, 1) := by decide +kernel
theorem dJ6_numberOfTrailingZeros_50 : decode cJ6_numberOfTrailingZeros 50 = .ok (.bipush 16, 2) := by decide +kernel
theorem dJ6_numberOfTrailingZeros_52 : decode cJ6_numberOfTrailingZeros 52 = .ok (.if_icmp .le 10, 3) := by decide +kernel
theorem dJ6_numberOfTrailingZeros_55 : decode cJ6_numberOfTrailingZeros 55 = .ok (.iinc 1 4, 3) := by decide +kernel
theorem dJ6_numberOfTrailingZeros_58 : decode cJ6_numberOfTrailingZeros 58 = .ok (.iload_n 0, 1) := by decide +kernel
theorem dJ6_numberOfTrailingZeros_59 : decode cJ6_numberOfTrailingZeros 59 = .ok (.iconst 4, 1) := by decide +kernel
theorem dJ6_numberOfTrailingZeros_60 : decode cJ6_numberOfTrailingZeros 60 = .ok (.iushr, 1) := by decide +kernel
theorem dJ6_numberOfTrailingZeros_61 : decode cJ6_numberOfTrailingZeros 61 = .ok (.istore_n 0, 1) := by decide +kernel
theorem dJ6_numberOfTrailingZeros_62 : decode cJ6_numberOfTrailingZeros 62 = .ok (.iload_n 0, 1) := by decide +kernel
theorem dJ6_numberOfTrailingZeros_63 : decode cJ6_numberOfTrailingZeros 63 = .ok (.iconst 4, 1) := by decide +kernel
theorem dJ6_numberOfTrailingZeros_64 : decode cJ6_numberOfTrailingZeros 64 = .ok (.if_icmp .le 10, 3) := by decide +kernel
theorem dJ6_numberOfTrailingZeros_67 : decode cJ6_numberOfTrailingZeros 67 = .ok (.iinc 1 2, 3) := by decide +kernel
theorem dJ6_numberOfTrailingZeros_70 : decode cJ6_numberOfTrailingZeros 70 = .ok (.iload_n 0, 1) := by decide +kernel
theorem dJ6_numberOfTrailingZeros_71 : decode cJ6_numberOfTrailingZeros 71 = .ok (.iconst 2, 1) := by decide +kernel
theorem dJ6_numberOfTrailingZeros_72 : decode cJ6_numberOfTrailingZeros 72 = .ok (.iushr, 1) := by decide +kernel
theorem dJ6_numberOfTrailingZeros_73 : decode cJ6_numberOfTrailingZeros 73 = .ok (.istore_n 0, 1) := by decide +kernel
theorem dJ6_numberOfTrailingZeros_74 : decode cJ6_numberOfTrailingZeros 74 = .ok (.iload_n 1, 1) := by decide +kernel
theorem dJ6_numberOfTrailingZeros_75 : decode cJ6_numberOfTrailingZeros 75 = .ok (.iload_n 0, 1) := by decide +kernel
theorem dJ6_numberOfTrailingZeros_76 : decode cJ6_numberOfTrailingZeros 76 = .ok (.iconst 1, 1) := by decide +kernel
theorem dJ6_numberOfTrailingZeros_77 : decode cJ6_numberOfTrailingZeros 77 = .ok (.iushr, 1) := by decide +kernel
theorem dJ6_numberOfTrailingZeros_78 : decode cJ6_numberOfTrailingZeros 78 = .ok (.iadd, 1) := by decide +kernel
theorem dJ6_numberOfTrailingZeros_79 : decode cJ6_numberOfTrailingZeros 79 = .ok (.ireturn, 1) := by decide +kernel
theorem dX0_lastUpTo_0 : decode cX0_lastUpTo 0 = .ok (.bipush 62, 2) := by decide +kernel
theorem dX0_lastUpTo_2 : decode cX0_lastUpTo 2 = .ok (.istore 4, 2) := by decide +kernel
theorem dX0_lastUpTo_4 : decode cX0_lastUpTo 4 = .ok (.iload 4, 2) := by decide +kernel
theorem dX0_lastUpTo_6 : decode cX0_lastUpTo 6 = .ok (.ifCond .lt 55, 3) := by decide +kernel
theorem dX0_lastUpTo_9 : decode cX0_lastUpTo 9 = .ok (.aload_n 0, 1) := by decide +kernel
theorem dX0_lastUpTo_10 : decode cX0_lastUpTo 10 = .ok (.getfield 11, 3) := by decide +kernel
theorem dX0_lastUpTo_13 : decode cX0_lastUpTo 13 = .ok (.iload 4, 2) := by decide +kernel
theorem dX0_lastUpTo_15 : decode cX0_lastUpTo 15 = .ok (.laload, 1) := by decide +kernel
theorem dX0_lastUpTo_16 : decode cX0_lastUpTo 16 = .ok (.lload_n 2, 1) := by decide +kernel
theorem dX0_lastUpTo_17 : decode cX0_lastUpTo 17 = .ok (.lxor, 1) := by decide +kernel
theorem dX0_lastUpTo_18 : decode cX0_lastUpTo 18 = .ok (.iload_n 1, 1) := by decide +kernel
theorem dX0_lastUpTo_19 : decode cX0_lastUpTo 19 = .ok (.iconst 1, 1) := by decide +kernel
theorem dX0_lastUpTo_20 : decode cX0_lastUpTo 20 = .ok (.iadd, 1) := by decide +kernel
theorem dX0_lastUpTo_21 : decode cX0_lastUpTo 21 = .ok (.bipush 64, 2) := by decide +kernel
theorem dX0_lastUpTo_23 : decode cX0_lastUpTo 23 = .ok (.iload 4, 2) := by decide +kernel
theorem dX0_lastUpTo_25 : decode cX0_lastUpTo 25 = .ok (.imul, 1) := by decide +kernel
theorem dX0_lastUpTo_26 : decode cX0_lastUpTo 26 = .ok (.isub, 1) := by decide +kernel
theorem dX0_lastUpTo_27 : decode cX0_lastUpTo 27 = .ok (.invokestatic 29, 3) := by decide +kernel
theorem dX0_lastUpTo_30 : decode cX0_lastUpTo 30 = .ok (.land, 1) := by decide +kernel
theorem dX0_lastUpTo_31 : decode cX0_lastUpTo 31 = .ok (.lstore 5, 2) := by decide +kernel
theorem dX0_lastUpTo_33 : decode cX0_lastUpTo 33 = .ok (.lload 5, 2) := by decide +kernel
theorem dX0_lastUpTo_35 : decode cX0_lastUpTo 35 = .ok (.lconst 0, 1) := by decide +kernel
theorem dX0_lastUpTo_36 : decode cX0_lastUpTo 36 = .ok (.lcmp, 1) := by decide +kernel
theorem dX0_lastUpTo_37 : decode cX0_lastUpTo 37 = .ok (.ifCond .eq 18, 3) := by decide +kernel
theorem dX0_lastUpTo_40 : decode cX0_lastUpTo 40 = .ok (.bipush 64, 2) := by decide +kernel
theorem dX0_lastUpTo_42 : decode cX0_lastUpTo 42 = .ok (.iload 4, 2) := by decide +kernel
theorem dX0_lastUpTo_44 : decode cX0_lastUpTo 44 = .ok (.imul, 1) := by decide +kernel
theorem dX0_lastUpTo_45 : decode cX0_lastUpTo 45 = .ok (.bipush 63, 2) := by decide +kernel
theorem dX0_lastUpTo_47 : decode cX0_lastUpTo 47 = .ok (.iadd, 1) := by decide +kernel
theorem dX0_lastUpTo_48 : decode cX0_lastUpTo 48 = .ok (.lload 5, 2) := by decide +kernel
theorem dX0_lastUpTo_50 : decode cX0_lastUpTo 50 = .ok (.invokestatic 41, 3) := by decide +kernel
theorem dX0_lastUpTo_53 : decode cX0_lastUpTo 53 = .ok (.isub, 1) := by decide +kernel
theorem dX0_lastUpTo_54 : decode cX0_lastUpTo 54 = .ok (.ireturn, 1) := by decide +kernel
theorem dX0_lastUpTo_55 : decode cX0_lastUpTo 55 = .ok (.iinc 4 (-1), 3) := by decide +kernel
theorem dX0_lastUpTo_58 : decode cX0_lastUpTo 58 = .ok (.goto (-54), 3) := by decide +kernel
theorem dX0_lastUpTo_61 : decode cX0_lastUpTo 61 = .ok (.iconst (-1), 1) := by decide +kernel
theorem dX0_lastUpTo_62 : decode cX0_lastUpTo 62 = .ok (.ireturn, 1) := by decide +kernel
theorem dJ7_numberOfLeadingZeros_0 : decode cJ7_numberOfLeadingZeros 0 = .ok (.lload_n 0, 1) := by decide +kernel
theorem dJ7_numberOfLeadingZeros_1 : decode cJ7_numberOfLeadingZeros 1 = .ok (.bipush 32, 2) := by decide +kernel
theorem dJ7_numberOfLeadingZeros_3 : decode cJ7_numberOfLeadingZeros 3 = .ok (.lushr, 1) := by decide +kernel
theorem dJ7_numberOfLeadingZeros_4 : decode cJ7_numberOfLeadingZeros 4 = .ok (.l2i, 1) := by decide +kernel
theorem dJ7_numberOfLeadingZeros_5 : decode cJ7_numberOfLeadingZeros 5 = .ok (.istore_n 2, 1) := by decide +kernel
theorem dJ7_numberOfLeadingZeros_6 : decode cJ7_numberOfLeadingZeros 6 = .ok (.iload_n 2, 1) := by decide +kernel
theorem dJ7_numberOfLeadingZeros_7 : decode cJ7_numberOfLeadingZeros 7 = .ok (.ifCond .ne 14, 3) := by decide +kernel
theorem dJ7_numberOfLeadingZeros_10 : decode cJ7_numberOfLeadingZeros 10 = .ok (.bipush 32, 2) := by decide +kernel
theorem dJ7_numberOfLeadingZeros_12 : decode cJ7_numberOfLeadingZeros 12 = .ok (.lload_n 0, 1) := by decide +kernel
theorem dJ7_numberOfLeadingZeros_13 : decode cJ7_numberOfLeadingZeros 13 = .ok (.l2i, 1) := by decide +kernel
theorem dJ7_numberOfLeadingZeros_14 : decode cJ7_numberOfLeadingZeros 14 = .ok (.invokestatic 308, 3) := by decide +kernel
theorem dJ7_numberOfLeadingZeros_17 : decode cJ7_numberOfLeadingZeros 17 = .ok (.iadd, 1) := by decide +kernel
theorem dJ7_numberOfLeadingZeros_18 : decode cJ7_numberOfLeadingZeros 18 = .ok (.goto 7, 3) := by decide +kernel
theorem dJ7_numberOfLeadingZeros_21 : decode cJ7_numberOfLeadingZeros 21 = .ok (.iload_n 2, 1) := by decide +kernel
theorem dJ7_numberOfLeadingZeros_22 : decode cJ7_numberOfLeadingZeros 22 = .ok (.invokestatic 308, 3) := by decide +kernel
theorem dJ7_numberOfLeadingZeros_25 : decode cJ7_numberOfLeadingZeros 25 = .ok (.ireturn, 1) := by decide +kernel
theorem dJ6_numberOfLeadingZeros_0 : decode cJ6_numberOfLeadingZeros 0 = .ok (.iload_n 0, 1) := by decide +kernel
theorem dJ6_numberOfLeadingZeros_1 : decode cJ6_numberOfLeadingZeros 1 = .ok (.ifCond .gt 14, 3) := by decide +kernel
theorem dJ6_numberOfLeadingZeros_4 : decode cJ6_numberOfLeadingZeros 4 = .ok (.iload_n 0, 1) := by decide +kernel
theorem dJ6_numberOfLeadingZeros_5 : decode cJ6_numberOfLeadingZeros 5 = .ok (.ifCond .ne 8, 3) := by decide +kernel
theorem dJ6_numberOfLeadingZeros_8 : decode cJ6_numberOfLeadingZeros 8 = .ok (.bipush 32, 2) := by decide +kernel
theorem dJ6_numberOfLeadingZeros_10 : decode cJ6_numberOfLeadingZeros 10 = .ok (.goto 4, 3) := by decide +kernel
theorem dJ6_numberOfLeadingZeros_13 : decode cJ6_numberOfLeadingZeros 13 = .ok (.iconst 0, 1) := by decide +kernel
theorem dJ6_numberOfLeadingZeros_14 : decode cJ6_numberOfLeadingZeros 14 = .ok (.ireturn, 1) := by decide +kernel
theorem dJ6_numberOfLeadingZeros_15 : decode cJ6_numberOfLeadingZeros 15 = .ok (.bipush 31, 2) := by decide +kernel
theorem dJ6_numberOfLeadingZeros_17 : decode cJ6_numberOfLeadingZeros 17 = .ok (.istore_n 1, 1) := by decide +kernel
theorem dJ6_numberOfLeadingZeros_18 : decode cJ6_numberOfLeadingZeros 18 = .ok (.iload_n 0, 1) := by decide +kernel
theorem dJ6_numberOfLeadingZeros_19 : decode cJ6_numberOfLeadingZeros 19 = .ok (.ldc_w 264, 3) := by decide +kernel
theorem dJ6_numberOfLeadingZeros_22 : decode cJ6_numberOfLeadingZeros 22 = .ok (.if_icmp .lt 11, 3) := by decide +kernel
theorem dJ6_numberOfLeadingZeros_25 : decode cJ6_numberOfLeadingZeros 25 = .ok (.iinc 1 (-16), 3) := by decide +kernel
theorem dJ6_numberOfLeadingZeros_28 : decode cJ6_numberOfLeadingZeros 28 = .ok (.iload_n 0, 1) := by decide +kernel
theorem dJ6_numberOfLeadingZeros_29 : decode cJ6_numberOfLeadingZeros 29 = .ok (.bipush 16, 2) := by decide +kernel
theorem dJ6_numberOfLeadingZeros_31 : decode cJ6_numberOfLeadingZeros 31 = .ok (.iushr, 1) := by decide +kernel
theorem dJ6_numberOfLeadingZeros_32 : decode cJ6_numberOfLeadingZeros 32 = .ok (.istore_n 0, 1) := by decide +kernel
theorem dJ6_numberOfLeadingZeros_33 : decode cJ6_numberOfLeadingZeros 33 = .ok (.iload_n 0, 1) := by decide +kernel
theorem dJ6_numberOfLeadingZeros_34 : decode cJ6_numberOfLeadingZeros 34 = .ok (.sipush 256, 3) := by decide +kernel
theorem dJ6_numberOfLeadingZeros_37 : decode cJ6_numberOfLeadingZeros 37 = .ok (.if_icmp .lt 11, 3) := by decide +kernel
theorem dJ6_numberOfLeadingZeros_40 : decode cJ6_numberOfLeadingZeros 40 = .ok (.iinc 1 (-8), 3) := by decide +kernel
theorem dJ6_numberOfLeadingZeros_43 : decode cJ6_numberOfLeadingZeros 43 = .ok (.iload_n 0, 1) := by decide +kernel
theorem dJ6_numberOfLeadingZeros_44 : decode cJ6_numberOfLeadingZeros 44 = .ok (.bipush 8, 2) := by decide +kernel
theorem dJ6_numberOfLeadingZeros_46 : decode cJ6_numberOfLeadingZeros 46 = .ok (.iushr, 1) := by decide +kernel
theorem dJ6_numberOfLeadingZeros_47 : decode cJ6_numberOfLeadingZeros 47 = .ok (.istore_n 0, 1) := by decide +kernel
theorem dJ6_numberOfLeadingZeros_48 : decode cJ6_numberOfLeadingZeros 48 = .ok (.iload_n 0, 1) := by decide +kernel
theorem dJ6_numberOfLeadingZeros_49 : decode cJ6_numberOfLeadingZeros 49 = .ok (.bipush 16, 2) := by decide +kernel
theorem dJ6_numberOfLeadingZeros_51 : decode cJ6_numberOfLeadingZeros 51 = .ok (.if_icmp .lt 10, 3) := by decide +kernel
theorem dJ6_numberOfLeadingZeros_54 : decode cJ6_numberOfLeadingZeros 54 = .ok (.iinc 1 (-4), 3) := by decide +kernel
theorem dJ6_numberOfLeadingZeros_57 : decode cJ6_numberOfLeadingZeros 57 = .ok (.iload_n 0, 1) := by decide +kernel
theorem dJ6_numberOfLeadingZeros_58 : decode cJ6_numberOfLeadingZeros 58 = .ok (.iconst 4, 1) := by decide +kernel
theorem dJ6_numberOfLeadingZeros_59 : decode cJ6_numberOfLeadingZeros 59 = .ok (.iushr, 1) := by decide +kernel
theorem dJ6_numberOfLeadingZeros_60 : decode cJ6_numberOfLeadingZeros 60 = .ok (.istore_n 0, 1) := by decide +kernel
theorem dJ6_numberOfLeadingZeros_61 : decode cJ6_numberOfLeadingZeros 61 = .ok (.iload_n 0, 1) := by decide +kernel
theorem dJ6_numberOfLeadingZeros_62 : decode cJ6_numberOfLeadingZeros 62 = .ok (.iconst 4, 1) := by decide +kernel
theorem dJ6_numberOfLeadingZeros_63 : decode cJ6_numberOfLeadingZeros 63 = .ok (.if_icmp .lt 10, 3) := by decide +kernel
theorem dJ6_numberOfLeadingZeros_66 : decode cJ6_numberOfLeadingZeros 66 = .ok (.iinc 1 (-2), 3) := by decide +kernel
theorem dJ6_numberOfLeadingZeros_69 : decode cJ6_numberOfLeadingZeros 69 = .ok (.iload_n 0, 1) := by decide +kernel
theorem dJ6_numberOfLeadingZeros_70 : decode cJ6_numberOfLeadingZeros 70 = .ok (.iconst 2, 1) := by decide +kernel
theorem dJ6_numberOfLeadingZeros_71 : decode cJ6_numberOfLeadingZeros 71 = .ok (.iushr, 1) := by decide +kernel
theorem dJ6_numberOfLeadingZeros_72 : decode cJ6_numberOfLeadingZeros 72 = .ok (.istore_n 0, 1) := by decide +kernel
theorem dJ6_numberOfLeadingZeros_73 : decode cJ6_numberOfLeadingZeros 73 = .ok (.iload_n 1, 1) := by decide +kernel
theorem dJ6_numberOfLeadingZeros_74 : decode cJ6_numberOfLeadingZeros 74 = .ok (.iload_n 0, 1) := by decide +kernel
theorem dJ6_numberOfLeadingZeros_75 : decode cJ6_numberOfLeadingZeros 75 = .ok (.iconst 1, 1) := by decide +kernel
theorem dJ6_numberOfLeadingZeros_76 : decode cJ6_numberOfLeadingZeros 76 = .ok (.iushr, 1) := by decide +kernel
theorem dJ6_numberOfLeadingZeros_77 : decode cJ6_numberOfLeadingZeros 77 = .ok (.isub, 1) := by decide +kernel
theorem dJ6_numberOfLeadingZeros_78 : decode cJ6_numberOfLeadingZeros 78 = .ok (.ireturn, 1) := by decide +kernel
theorem dX2_join_0 : decode cX2_join 0 = .ok (.iload_n 1, 1) := by decide +kernel
theorem dX2_join_1 : decode cX2_join 1 = .ok (.invokestatic 23, 3) := by decide +kernel
theorem dX2_join_4 : decode cX2_join 4 = .ok (.ifCond .eq 19, 3) := by decide +kernel
theorem dX2_join_7 : decode cX2_join 7 = .ok (.iload_n 3, 1) := by decide +kernel
theorem dX2_join_8 : decode cX2_join 8 = .ok (.invokestatic 23, 3) := by decide +kernel
theorem dX2_join_11 : decode cX2_join 11 = .ok (.ifCond .eq 12, 3) := by decide +kernel
theorem dX2_join_14 : decode cX2_join 14 = .ok (.iload_n 2, 1) := by decide +kernel
theorem dX2_join_15 : decode cX2_join 15 = .ok (.ifCond .lt 8, 3) := by decide +kernel
theorem dX2_join_18 : decode cX2_join 18 = .ok (.iload_n 2, 1) := by decide +kernel
theorem dX2_join_19 : decode cX2_join 19 = .ok (.iconst 3, 1) := by decide +kernel
theorem dX2_join_20 : decode cX2_join 20 = .ok (.if_icmp .le 6, 3) := by decide +kernel
theorem dX2_join_23 : decode cX2_join 23 = .ok (.bipush (-2), 2) := by decide +kernel
theorem dX2_join_25 : decode cX2_join 25 = .ok (.ireturn, 1) := by decide +kernel
theorem dX2_join_26 : decode cX2_join 26 = .ok (.aload_n 0, 1) := by decide +kernel
theorem dX2_join_27 : decode cX2_join 27 = .ok (.getfield 11, 3) := by decide +kernel
theorem dX2_join_30 : decode cX2_join 30 = .ok (.iload_n 1, 1) := by decide +kernel
theorem dX2_join_31 : decode cX2_join 31 = .ok (.aaload, 1) := by decide +kernel
theorem dX2_join_32 : decode cX2_join 32 = .ok (.iload_n 2, 1) := by decide +kernel
theorem dX2_join_33 : decode cX2_join 33 = .ok (.aload_n 0, 1) := by decide +kernel
theorem dX2_join_34 : decode cX2_join 34 = .ok (.getfield 11, 3) := by decide +kernel
theorem dX2_join_37 : decode cX2_join 37 = .ok (.iload_n 3, 1) := by decide +kernel
theorem dX2_join_38 : decode cX2_join 38 = .ok (.aaload, 1) := by decide +kernel
theorem dX2_join_39 : decode cX2_join 39 = .ok (.invokevirtual 58, 3) := by decide +kernel
theorem dX2_join_42 : decode cX2_join 42 = .ok (.aload_n 0, 1) := by decide +kernel
theorem dX2_join_43 : decode cX2_join 43 = .ok (.getfield 11, 3) := by decide +kernel
theorem dX2_join_46 : decode cX2_join 46 = .ok (.iload_n 1, 1) := by decide +kernel
theorem dX2_join_47 : decode cX2_join 47 = .ok (.aaload, 1) := by decide +kernel
theorem dX2_join_48 : decode cX2_join 48 = .ok (.invokevirtual 45, 3) := by decide +kernel
theorem dX2_join_51 : decode cX2_join 51 = .ok (.ireturn, 1) := by decide +kernel
theorem dX0_combine_0 : decode cX0_combine 0 = .ok (.iconst 0, 1) := by decide +kernel
theorem dX0_combine_1 : decode cX0_combine 1 = .ok (.istore_n 3, 1) := by decide +kernel
theorem dX0_combine_2 : decode cX0_combine 2 = .ok (.iload_n 3, 1) := by decide +kernel
theorem dX0_combine_3 : decode cX0_combine 3 = .ok (.bipush 63, 2) := by decide +kernel
theorem dX0_combine_5 : decode cX0_combine 5 = .ok (.if_icmp .ge 31, 3) := by decide +kernel
theorem dX0_combine_8 : decode cX0_combine 8 = .ok (.aload_n 0, 1) := by decide +kernel
theorem dX0_combine_9 : decode cX0_combine 9 = .ok (.getfield 11, 3) := by decide +kernel
theorem dX0_combine_12 : decode cX0_combine 12 = .ok (.iload_n 3, 1) := by decide +kernel
end
section
theorem dX0_combine_13 : decode cX0_combine 13 = .ok (.aload_n 0, 1) := by decide +kernel
theorem dX0_combine_14 : decode cX0_combine 14 = .ok (.getfield 11, 3) := by decide +kernel
theorem dX0_combine_17 : decode cX0_combine 17 = .ok (.iload_n 3, 1) := by decide +kernel
theorem dX0_combine_18 : decode cX0_combine 18 = .ok (.laload, 1) := by decide +kernel
theorem dX0_combine_19 : decode cX0_combine 19 = .ok (.iload_n 1, 1) := by decide +kernel
theorem dX0_combine_20 : decode cX0_combine 20 = .ok (.aload_n 2, 1) := by decide +kernel
theorem dX0_combine_21 : decode cX0_combine 21 = .ok (.getfield 11, 3) := by decide +kernel
theorem dX0_combine_24 : decode cX0_combine 24 = .ok (.iload_n 3, 1) := by decide +kernel
theorem dX0_combine_25 : decode cX0_combine 25 = .ok (.laload, 1) := by decide +kernel
theorem dX0_combine_26 : decode cX0_combine 26 = .ok (.invokestatic 44, 3) := by decide +kernel
theorem dX0_combine_29 : decode cX0_combine 29 = .ok (.lastore, 1) := by decide +kernel
theorem dX0_combine_30 : decode cX0_combine 30 = .ok (.iinc 3 1, 3) := by decide +kernel
theorem dX0_combine_33 : decode cX0_combine 33 = .ok (.goto (-31), 3) := by decide +kernel
theorem dX0_combine_36 : decode cX0_combine 36 = .ok (.return_, 1) := by decide +kernel
theorem dX0_combined_0 : decode cX0_combined 0 = .ok (.iload_n 2, 1) := by decide +kernel
theorem dX0_combined_1 : decode cX0_combined 1 = .ok (.tableswitch 39 0 2 #[27, 31, 35], 27) := by decide +kernel
theorem dX0_combined_28 : decode cX0_combined 28 = .ok (.lload_n 0, 1) := by decide +kernel
theorem dX0_combined_29 : decode cX0_combined 29 = .ok (.lload_n 3, 1) := by decide +kernel
theorem dX0_combined_30 : decode cX0_combined 30 = .ok (.land, 1) := by decide +kernel
theorem dX0_combined_31 : decode cX0_combined 31 = .ok (.lreturn, 1) := by decide +kernel
theorem dX0_combined_32 : decode cX0_combined 32 = .ok (.lload_n 0, 1) := by decide +kernel
theorem dX0_combined_33 : decode cX0_combined 33 = .ok (.lload_n 3, 1) := by decide +kernel
theorem dX0_combined_34 : decode cX0_combined 34 = .ok (.lor, 1) := by decide +kernel
theorem dX0_combined_35 : decode cX0_combined 35 = .ok (.lreturn, 1) := by decide +kernel
theorem dX0_combined_36 : decode cX0_combined 36 = .ok (.lload_n 0, 1) := by decide +kernel
theorem dX0_combined_37 : decode cX0_combined 37 = .ok (.lload_n 3, 1) := by decide +kernel
theorem dX0_combined_38 : decode cX0_combined 38 = .ok (.lxor, 1) := by decide +kernel
theorem dX0_combined_39 : decode cX0_combined 39 = .ok (.lreturn, 1) := by decide +kernel
theorem dX0_combined_40 : decode cX0_combined 40 = .ok (.lload_n 0, 1) := by decide +kernel
theorem dX0_combined_41 : decode cX0_combined 41 = .ok (.lload_n 3, 1) := by decide +kernel
theorem dX0_combined_42 : decode cX0_combined 42 = .ok (.ldc2_w 32, 3) := by decide +kernel
theorem dX0_combined_45 : decode cX0_combined 45 = .ok (.lxor, 1) := by decide +kernel
theorem dX0_combined_46 : decode cX0_combined 46 = .ok (.land, 1) := by decide +kernel
theorem dX0_combined_47 : decode cX0_combined 47 = .ok (.lreturn, 1) := by decide +kernel
theorem dX2_cut_0 : decode cX2_cut 0 = .ok (.iload_n 1, 1) := by decide +kernel
theorem dX2_cut_1 : decode cX2_cut 1 = .ok (.invokestatic 23, 3) := by decide +kernel
theorem dX2_cut_4 : decode cX2_cut 4 = .ok (.ifCond .eq 19, 3) := by decide +kernel
theorem dX2_cut_7 : decode cX2_cut 7 = .ok (.iload_n 2, 1) := by decide +kernel
theorem dX2_cut_8 : decode cX2_cut 8 = .ok (.invokestatic 23, 3) := by decide +kernel
theorem dX2_cut_11 : decode cX2_cut 11 = .ok (.ifCond .eq 12, 3) := by decide +kernel
theorem dX2_cut_14 : decode cX2_cut 14 = .ok (.iload_n 3, 1) := by decide +kernel
theorem dX2_cut_15 : decode cX2_cut 15 = .ok (.iload 4, 2) := by decide +kernel
theorem dX2_cut_17 : decode cX2_cut 17 = .ok (.invokestatic 41, 3) := by decide +kernel
theorem dX2_cut_20 : decode cX2_cut 20 = .ok (.ifCond .ne 6, 3) := by decide +kernel
theorem dX2_cut_23 : decode cX2_cut 23 = .ok (.bipush (-2), 2) := by decide +kernel
theorem dX2_cut_25 : decode cX2_cut 25 = .ok (.ireturn, 1) := by decide +kernel
theorem dX2_cut_26 : decode cX2_cut 26 = .ok (.aload_n 0, 1) := by decide +kernel
theorem dX2_cut_27 : decode cX2_cut 27 = .ok (.getfield 11, 3) := by decide +kernel
theorem dX2_cut_30 : decode cX2_cut 30 = .ok (.iload_n 1, 1) := by decide +kernel
theorem dX2_cut_31 : decode cX2_cut 31 = .ok (.aaload, 1) := by decide +kernel
theorem dX2_cut_32 : decode cX2_cut 32 = .ok (.aload_n 0, 1) := by decide +kernel
theorem dX2_cut_33 : decode cX2_cut 33 = .ok (.getfield 11, 3) := by decide +kernel
theorem dX2_cut_36 : decode cX2_cut 36 = .ok (.iload_n 2, 1) := by decide +kernel
theorem dX2_cut_37 : decode cX2_cut 37 = .ok (.aaload, 1) := by decide +kernel
theorem dX2_cut_38 : decode cX2_cut 38 = .ok (.iload_n 3, 1) := by decide +kernel
theorem dX2_cut_39 : decode cX2_cut 39 = .ok (.iload 4, 2) := by decide +kernel
theorem dX2_cut_41 : decode cX2_cut 41 = .ok (.invokevirtual 62, 3) := by decide +kernel
theorem dX2_cut_44 : decode cX2_cut 44 = .ok (.aload_n 0, 1) := by decide +kernel
theorem dX2_cut_45 : decode cX2_cut 45 = .ok (.getfield 11, 3) := by decide +kernel
theorem dX2_cut_48 : decode cX2_cut 48 = .ok (.iload_n 1, 1) := by decide +kernel
theorem dX2_cut_49 : decode cX2_cut 49 = .ok (.aaload, 1) := by decide +kernel
theorem dX2_cut_50 : decode cX2_cut 50 = .ok (.invokevirtual 45, 3) := by decide +kernel
theorem dX2_cut_53 : decode cX2_cut 53 = .ok (.ireturn, 1) := by decide +kernel
theorem dX0_takePiece_0 : decode cX0_takePiece 0 = .ok (.iconst 0, 1) := by decide +kernel
theorem dX0_takePiece_1 : decode cX0_takePiece 1 = .ok (.istore 4, 2) := by decide +kernel
theorem dX0_takePiece_3 : decode cX0_takePiece 3 = .ok (.iload 4, 2) := by decide +kernel
theorem dX0_takePiece_5 : decode cX0_takePiece 5 = .ok (.bipush 63, 2) := by decide +kernel
theorem dX0_takePiece_7 : decode cX0_takePiece 7 = .ok (.if_icmp .ge 40, 3) := by decide +kernel
theorem dX0_takePiece_10 : decode cX0_takePiece 10 = .ok (.aload_n 0, 1) := by decide +kernel
theorem dX0_takePiece_11 : decode cX0_takePiece 11 = .ok (.getfield 11, 3) := by decide +kernel
theorem dX0_takePiece_14 : decode cX0_takePiece 14 = .ok (.iload 4, 2) := by decide +kernel
theorem dX0_takePiece_16 : decode cX0_takePiece 16 = .ok (.aload_n 1, 1) := by decide +kernel
theorem dX0_takePiece_17 : decode cX0_takePiece 17 = .ok (.iload_n 2, 1) := by decide +kernel
theorem dX0_takePiece_18 : decode cX0_takePiece 18 = .ok (.bipush 64, 2) := by decide +kernel
theorem dX0_takePiece_20 : decode cX0_takePiece 20 = .ok (.iload 4, 2) := by decide +kernel
theorem dX0_takePiece_22 : decode cX0_takePiece 22 = .ok (.imul, 1) := by decide +kernel
theorem dX0_takePiece_23 : decode cX0_takePiece 23 = .ok (.iadd, 1) := by decide +kernel
theorem dX0_takePiece_24 : decode cX0_takePiece 24 = .ok (.invokevirtual 47, 3) := by decide +kernel
theorem dX0_takePiece_27 : decode cX0_takePiece 27 = .ok (.iload_n 3, 1) := by decide +kernel
theorem dX0_takePiece_28 : decode cX0_takePiece 28 = .ok (.iload_n 2, 1) := by decide +kernel
theorem dX0_takePiece_29 : decode cX0_takePiece 29 = .ok (.isub, 1) := by decide +kernel
theorem dX0_takePiece_30 : decode cX0_takePiece 30 = .ok (.bipush 64, 2) := by decide +kernel
theorem dX0_takePiece_32 : decode cX0_takePiece 32 = .ok (.iload 4, 2) := by decide +kernel
theorem dX0_takePiece_34 : decode cX0_takePiece 34 = .ok (.imul, 1) := by decide +kernel
theorem dX0_takePiece_35 : decode cX0_takePiece 35 = .ok (.isub, 1) := by decide +kernel
theorem dX0_takePiece_36 : decode cX0_takePiece 36 = .ok (.invokestatic 29, 3) := by decide +kernel
theorem dX0_takePiece_39 : decode cX0_takePiece 39 = .ok (.land, 1) := by decide +kernel
theorem dX0_takePiece_40 : decode cX0_takePiece 40 = .ok (.lastore, 1) := by decide +kernel
theorem dX0_takePiece_41 : decode cX0_takePiece 41 = .ok (.iinc 4 1, 3) := by decide +kernel
theorem dX0_takePiece_44 : decode cX0_takePiece 44 = .ok (.goto (-41), 3) := by decide +kernel
theorem dX0_takePiece_47 : decode cX0_takePiece 47 = .ok (.return_, 1) := by decide +kernel
theorem dX0_bitsFrom_0 : decode cX0_bitsFrom 0 = .ok (.iload_n 1, 1) := by decide +kernel
theorem dX0_bitsFrom_1 : decode cX0_bitsFrom 1 = .ok (.bipush 6, 2) := by decide +kernel
theorem dX0_bitsFrom_3 : decode cX0_bitsFrom 3 = .ok (.ishr, 1) := by decide +kernel
theorem dX0_bitsFrom_4 : decode cX0_bitsFrom 4 = .ok (.istore_n 2, 1) := by decide +kernel
theorem dX0_bitsFrom_5 : decode cX0_bitsFrom 5 = .ok (.iload_n 1, 1) := by decide +kernel
theorem dX0_bitsFrom_6 : decode cX0_bitsFrom 6 = .ok (.bipush 63, 2) := by decide +kernel
theorem dX0_bitsFrom_8 : decode cX0_bitsFrom 8 = .ok (.iand, 1) := by decide +kernel
theorem dX0_bitsFrom_9 : decode cX0_bitsFrom 9 = .ok (.istore_n 3, 1) := by decide +kernel
theorem dX0_bitsFrom_10 : decode cX0_bitsFrom 10 = .ok (.iload_n 3, 1) := by decide +kernel
theorem dX0_bitsFrom_11 : decode cX0_bitsFrom 11 = .ok (.ifCond .ne 9, 3) := by decide +kernel
theorem dX0_bitsFrom_14 : decode cX0_bitsFrom 14 = .ok (.aload_n 0, 1) := by decide +kernel
theorem dX0_bitsFrom_15 : decode cX0_bitsFrom 15 = .ok (.iload_n 2, 1) := by decide +kernel
theorem dX0_bitsFrom_16 : decode cX0_bitsFrom 16 = .ok (.invokevirtual 15, 3) := by decide +kernel
theorem dX0_bitsFrom_19 : decode cX0_bitsFrom 19 = .ok (.lreturn, 1) := by decide +kernel
theorem dX0_bitsFrom_20 : decode cX0_bitsFrom 20 = .ok (.aload_n 0, 1) := by decide +kernel
theorem dX0_bitsFrom_21 : decode cX0_bitsFrom 21 = .ok (.iload_n 2, 1) := by decide +kernel
theorem dX0_bitsFrom_22 : decode cX0_bitsFrom 22 = .ok (.invokevirtual 15, 3) := by decide +kernel
theorem dX0_bitsFrom_25 : decode cX0_bitsFrom 25 = .ok (.iload_n 3, 1) := by decide +kernel
theorem dX0_bitsFrom_26 : decode cX0_bitsFrom 26 = .ok (.lushr, 1) := by decide +kernel
theorem dX0_bitsFrom_27 : decode cX0_bitsFrom 27 = .ok (.aload_n 0, 1) := by decide +kernel
theorem dX0_bitsFrom_28 : decode cX0_bitsFrom 28 = .ok (.iload_n 2, 1) := by decide +kernel
theorem dX0_bitsFrom_29 : decode cX0_bitsFrom 29 = .ok (.iconst 1, 1) := by decide +kernel
theorem dX0_bitsFrom_30 : decode cX0_bitsFrom 30 = .ok (.iadd, 1) := by decide +kernel
theorem dX0_bitsFrom_31 : decode cX0_bitsFrom 31 = .ok (.invokevirtual 15, 3) := by decide +kernel
theorem dX0_bitsFrom_34 : decode cX0_bitsFrom 34 = .ok (.bipush 64, 2) := by decide +kernel
theorem dX0_bitsFrom_36 : decode cX0_bitsFrom 36 = .ok (.iload_n 3, 1) := by decide +kernel
theorem dX0_bitsFrom_37 : decode cX0_bitsFrom 37 = .ok (.isub, 1) := by decide +kernel
theorem dX0_bitsFrom_38 : decode cX0_bitsFrom 38 = .ok (.lshl, 1) := by decide +kernel
theorem dX0_bitsFrom_39 : decode cX0_bitsFrom 39 = .ok (.lor, 1) := by decide +kernel
theorem dX0_bitsFrom_40 : decode cX0_bitsFrom 40 = .ok (.lreturn, 1) := by decide +kernel
theorem dX2_copy_0 : decode cX2_copy 0 = .ok (.iload_n 1, 1) := by decide +kernel
theorem dX2_copy_1 : decode cX2_copy 1 = .ok (.invokestatic 23, 3) := by decide +kernel
theorem dX2_copy_4 : decode cX2_copy 4 = .ok (.ifCond .eq 10, 3) := by decide +kernel
theorem dX2_copy_7 : decode cX2_copy 7 = .ok (.iload_n 2, 1) := by decide +kernel
theorem dX2_copy_8 : decode cX2_copy 8 = .ok (.invokestatic 23, 3) := by decide +kernel
theorem dX2_copy_11 : decode cX2_copy 11 = .ok (.ifCond .ne 6, 3) := by decide +kernel
theorem dX2_copy_14 : decode cX2_copy 14 = .ok (.bipush (-2), 2) := by decide +kernel
theorem dX2_copy_16 : decode cX2_copy 16 = .ok (.ireturn, 1) := by decide +kernel
theorem dX2_copy_17 : decode cX2_copy 17 = .ok (.aload_n 0, 1) := by decide +kernel
theorem dX2_copy_18 : decode cX2_copy 18 = .ok (.getfield 11, 3) := by decide +kernel
theorem dX2_copy_21 : decode cX2_copy 21 = .ok (.iload_n 1, 1) := by decide +kernel
theorem dX2_copy_22 : decode cX2_copy 22 = .ok (.aaload, 1) := by decide +kernel
theorem dX2_copy_23 : decode cX2_copy 23 = .ok (.aload_n 0, 1) := by decide +kernel
theorem dX2_copy_24 : decode cX2_copy 24 = .ok (.getfield 11, 3) := by decide +kernel
theorem dX2_copy_27 : decode cX2_copy 27 = .ok (.iload_n 2, 1) := by decide +kernel
theorem dX2_copy_28 : decode cX2_copy 28 = .ok (.aaload, 1) := by decide +kernel
theorem dX2_copy_29 : decode cX2_copy 29 = .ok (.iconst 0, 1) := by decide +kernel
theorem dX2_copy_30 : decode cX2_copy 30 = .ok (.sipush 4001, 3) := by decide +kernel
theorem dX2_copy_33 : decode cX2_copy 33 = .ok (.invokevirtual 62, 3) := by decide +kernel
theorem dX2_copy_36 : decode cX2_copy 36 = .ok (.aload_n 0, 1) := by decide +kernel
theorem dX2_copy_37 : decode cX2_copy 37 = .ok (.getfield 11, 3) := by decide +kernel
theorem dX2_copy_40 : decode cX2_copy 40 = .ok (.iload_n 1, 1) := by decide +kernel
theorem dX2_copy_41 : decode cX2_copy 41 = .ok (.aaload, 1) := by decide +kernel
theorem dX2_copy_42 : decode cX2_copy 42 = .ok (.invokevirtual 45, 3) := by decide +kernel
theorem dX2_copy_45 : decode cX2_copy 45 = .ok (.ireturn, 1) := by decide +kernel
theorem dX2_look_0 : decode cX2_look 0 = .ok (.iload_n 1, 1) := by decide +kernel
theorem dX2_look_1 : decode cX2_look 1 = .ok (.invokestatic 23, 3) := by decide +kernel
theorem dX2_look_4 : decode cX2_look 4 = .ok (.ifCond .ne 6, 3) := by decide +kernel
theorem dX2_look_7 : decode cX2_look 7 = .ok (.bipush (-2), 2) := by decide +kernel
theorem dX2_look_9 : decode cX2_look 9 = .ok (.ireturn, 1) := by decide +kernel
theorem dX2_look_10 : decode cX2_look 10 = .ok (.iload_n 2, 1) := by decide +kernel
theorem dX2_look_11 : decode cX2_look 11 = .ok (.tableswitch 63 0 2 #[25, 35, 45], 25) := by decide +kernel
theorem dX2_look_36 : decode cX2_look 36 = .ok (.aload_n 0, 1) := by decide +kernel
theorem dX2_look_37 : decode cX2_look 37 = .ok (.getfield 11, 3) := by decide +kernel
theorem dX2_look_40 : decode cX2_look 40 = .ok (.iload_n 1, 1) := by decide +kernel
theorem dX2_look_41 : decode cX2_look 41 = .ok (.aaload, 1) := by decide +kernel
theorem dX2_look_42 : decode cX2_look 42 = .ok (.invokevirtual 45, 3) := by decide +kernel
theorem dX2_look_45 : decode cX2_look 45 = .ok (.ireturn, 1) := by decide +kernel
theorem dX2_look_46 : decode cX2_look 46 = .ok (.aload_n 0, 1) := by decide +kernel
theorem dX2_look_47 : decode cX2_look 47 = .ok (.getfield 11, 3) := by decide +kernel
theorem dX2_look_50 : decode cX2_look 50 = .ok (.iload_n 1, 1) := by decide +kernel
theorem dX2_look_51 : decode cX2_look 51 = .ok (.aaload, 1) := by decide +kernel
theorem dX2_look_52 : decode cX2_look 52 = .ok (.invokevirtual 66, 3) := by decide +kernel
theorem dX2_look_55 : decode cX2_look 55 = .ok (.ireturn, 1) := by decide +kernel
theorem dX2_look_56 : decode cX2_look 56 = .ok (.aload_n 0, 1) := by decide +kernel
theorem dX2_look_57 : decode cX2_look 57 = .ok (.getfield 11, 3) := by decide +kernel
theorem dX2_look_60 : decode cX2_look 60 = .ok (.iload_n 1, 1) := by decide +kernel
theorem dX2_look_61 : decode cX2_look 61 = .ok (.aaload, 1) := by decide +kernel
theorem dX2_look_62 : decode cX2_look 62 = .ok (.invokevirtual 66, 3) := by decide +kernel
theorem dX2_look_65 : decode cX2_look 65 = .ok (.ifCond .ne 7, 3) := by decide +kernel
theorem dX2_look_68 : decode cX2_look 68 = .ok (.iconst 1, 1) := by decide +kernel
theorem dX2_look_69 : decode cX2_look 69 = .ok (.goto 4, 3) := by decide +kernel
theorem dX2_look_72 : decode cX2_look 72 = .ok (.iconst 0, 1) := by decide +kernel
theorem dX2_look_73 : decode cX2_look 73 = .ok (.ireturn, 1) := by decide +kernel
theorem dX2_look_74 : decode cX2_look 74 = .ok (.bipush (-2), 2) := by decide +kernel
theorem dX2_look_76 : decode cX2_look 76 = .ok (.ireturn, 1) := by decide +kernel
theorem dX0_end_0 : decode cX0_end 0 = .ok (.aload_n 0, 1) := by decide +kernel
theorem dX0_end_1 : decode cX0_end 1 = .ok (.sipush 4000, 3) := by decide +kernel
theorem dX0_end_4 : decode cX0_end 4 = .ok (.lconst 0, 1) := by decide +kernel
theorem dX0_end_5 : decode cX0_end 5 = .ok (.invokevirtual 25, 3) := by decide +kernel
theorem dX0_end_8 : decode cX0_end 8 = .ok (.iconst 1, 1) := by decide +kernel
theorem dX0_end_9 : decode cX0_end 9 = .ok (.iadd, 1) := by decide +kernel
theorem dX0_end_10 : decode cX0_end 10 = .ok (.ireturn, 1) := by decide +kernel
theorem dX2_meet_0 : decode cX2_meet 0 = .ok (.iload_n 1, 1) := by decide +kernel
theorem dX2_meet_1 : decode cX2_meet 1 = .ok (.invokestatic 23, 3) := by decide +kernel
theorem dX2_meet_4 : decode cX2_meet 4 = .ok (.ifCond .eq 10, 3) := by decide +kernel
theorem dX2_meet_7 : decode cX2_meet 7 = .ok (.iload_n 3, 1) := by decide +kernel
theorem dX2_meet_8 : decode cX2_meet 8 = .ok (.invokestatic 23, 3) := by decide +kernel
theorem dX2_meet_11 : decode cX2_meet 11 = .ok (.ifCond .ne 6, 3) := by decide +kernel
theorem dX2_meet_14 : decode cX2_meet 14 = .ok (.bipush (-2), 2) := by decide +kernel
theorem dX2_meet_16 : decode cX2_meet 16 = .ok (.ireturn, 1) := by decide +kernel
theorem dX2_meet_17 : decode cX2_meet 17 = .ok (.iload_n 2, 1) := by decide +kernel
theorem dX2_meet_18 : decode cX2_meet 18 = .ok (.lookupswitch 74 #[(0, 26), (1, 50)], 26) := by decide +kernel
theorem dX2_meet_44 : decode cX2_meet 44 = .ok (.aload_n 0, 1) := by decide +kernel
theorem dX2_meet_45 : decode cX2_meet 45 = .ok (.getfield 11, 3) := by decide +kernel
theorem dX2_meet_48 : decode cX2_meet 48 = .ok (.iload_n 1, 1) := by decide +kernel
theorem dX2_meet_49 : decode cX2_meet 49 = .ok (.aaload, 1) := by decide +kernel
theorem dX2_meet_50 : decode cX2_meet 50 = .ok (.aload_n 0, 1) := by decide +kernel
theorem dX2_meet_51 : decode cX2_meet 51 = .ok (.getfield 11, 3) := by decide +kernel
theorem dX2_meet_54 : decode cX2_meet 54 = .ok (.iload_n 3, 1) := by decide +kernel
theorem dX2_meet_55 : decode cX2_meet 55 = .ok (.aaload, 1) := by decide +kernel
theorem dX2_meet_56 : decode cX2_meet 56 = .ok (.invokevirtual 69, 3) := by decide +kernel
theorem dX2_meet_59 : decode cX2_meet 59 = .ok (.ifCond .eq 7, 3) := by decide +kernel
theorem dX2_meet_62 : decode cX2_meet 62 = .ok (.iconst 1, 1) := by decide +kernel
theorem dX2_meet_63 : decode cX2_meet 63 = .ok (.goto 4, 3) := by decide +kernel
theorem dX2_meet_66 : decode cX2_meet 66 = .ok (.iconst 0, 1) := by decide +kernel
theorem dX2_meet_67 : decode cX2_meet 67 = .ok (.ireturn, 1) := by decide +kernel
theorem dX2_meet_68 : decode cX2_meet 68 = .ok (.aload_n 0, 1) := by decide +kernel
theorem dX2_meet_69 : decode cX2_meet 69 = .ok (.getfield 11, 3) := by decide +kernel
theorem dX2_meet_72 : decode cX2_meet 72 = .ok (.iload_n 1, 1) := by decide +kernel
theorem dX2_meet_73 : decode cX2_meet 73 = .ok (.aaload, 1) := by decide +kernel
theorem dX2_meet_74 : decode cX2_meet 74 = .ok (.aload_n 0, 1) := by decide +kernel
theorem dX2_meet_75 : decode cX2_meet 75 = .ok (.getfield 11, 3) := by decide +kernel
theorem dX2_meet_78 : decode cX2_meet 78 = .ok (.iload_n 3, 1) := by decide +kernel
theorem dX2_meet_79 : decode cX2_meet 79 = .ok (.aaload, 1) := by decide +kernel
theorem dX2_meet_80 : decode cX2_meet 80 = .ok (.invokevirtual 73, 3) := by decide +kernel
theorem dX2_meet_83 : decode cX2_meet 83 = .ok (.ifCond .eq 7, 3) := by decide +kernel
theorem dX2_meet_86 : decode cX2_meet 86 = .ok (.iconst 1, 1) := by decide +kernel
theorem dX2_meet_87 : decode cX2_meet 87 = .ok (.goto 4, 3) := by decide +kernel
theorem dX2_meet_90 : decode cX2_meet 90 = .ok (.iconst 0, 1) := by decide +kernel
theorem dX2_meet_91 : decode cX2_meet 91 = .ok (.ireturn, 1) := by decide +kernel
theorem dX2_meet_92 : decode cX2_meet 92 = .ok (.bipush (-2), 2) := by decide +kernel
theorem dX2_meet_94 : decode cX2_meet 94 = .ok (.ireturn, 1) := by decide +kernel
theorem dX0_sharesOne_0 : decode cX0_sharesOne 0 = .ok (.iconst 0, 1) := by decide +kernel
theorem dX0_sharesOne_1 : decode cX0_sharesOne 1 = .ok (.istore_n 2, 1) := by decide +kernel
theorem dX0_sharesOne_2 : decode cX0_sharesOne 2 = .ok (.iload_n 2, 1) := by decide +kernel
theorem dX0_sharesOne_3 : decode cX0_sharesOne 3 = .ok (.bipush 63, 2) := by decide +kernel
theorem dX0_sharesOne_5 : decode cX0_sharesOne 5 = .ok (.if_icmp .ge 29, 3) := by decide +kernel
theorem dX0_sharesOne_8 : decode cX0_sharesOne 8 = .ok (.aload_n 0, 1) := by decide +kernel
theorem dX0_sharesOne_9 : decode cX0_sharesOne 9 = .ok (.getfield 11, 3) := by decide +kernel
theorem dX0_sharesOne_12 : decode cX0_sharesOne 12 = .ok (.iload_n 2, 1) := by decide +kernel
theorem dX0_sharesOne_13 : decode cX0_sharesOne 13 = .ok (.laload, 1) := by decide +kernel
theorem dX0_sharesOne_14 : decode cX0_sharesOne 14 = .ok (.aload_n 1, 1) := by decide +kernel
theorem dX0_sharesOne_15 : decode cX0_sharesOne 15 = .ok (.getfield 11, 3) := by decide +kernel
theorem dX0_sharesOne_18 : decode cX0_sharesOne 18 = .ok (.iload_n 2, 1) := by decide +kernel
theorem dX0_sharesOne_19 : decode cX0_sharesOne 19 = .ok (.laload, 1) := by decide +kernel
theorem dX0_sharesOne_20 : decode cX0_sharesOne 20 = .ok (.land, 1) := by decide +kernel
theorem dX0_sharesOne_21 : decode cX0_sharesOne 21 = .ok (.lconst 0, 1) := by decide +kernel
theorem dX0_sharesOne_22 : decode cX0_sharesOne 22 = .ok (.lcmp, 1) := by decide +kernel
theorem dX0_sharesOne_23 : decode cX0_sharesOne 23 = .ok (.ifCond .eq 5, 3) := by decide +kernel
theorem dX0_sharesOne_26 : decode cX0_sharesOne 26 = .ok (.iconst 1, 1) := by decide +kernel
theorem dX0_sharesOne_27 : decode cX0_sharesOne 27 = .ok (.ireturn, 1) := by decide +kernel
theorem dX0_sharesOne_28 : decode cX0_sharesOne 28 = .ok (.iinc 2 1, 3) := by decide +kernel
theorem dX0_sharesOne_31 : decode cX0_sharesOne 31 = .ok (.goto (-29), 3) := by decide +kernel
theorem dX0_sharesOne_34 : decode cX0_sharesOne 34 = .ok (.iconst 0, 1) := by decide +kernel
theorem dX0_sharesOne_35 : decode cX0_sharesOne 35 = .ok (.ireturn, 1) := by decide +kernel
theorem dX0_isSame_0 : decode cX0_isSame 0 = .ok (.iconst 0, 1) := by decide +kernel
theorem dX0_isSame_1 : decode cX0_isSame 1 = .ok (.istore_n 2, 1) := by decide +kernel
theorem dX0_isSame_2 : decode cX0_isSame 2 = .ok (.iload_n 2, 1) := by decide +kernel
theorem dX0_isSame_3 : decode cX0_isSame 3 = .ok (.bipush 63, 2) := by decide +kernel
theorem dX0_isSame_5 : decode cX0_isSame 5 = .ok (.if_icmp .ge 27, 3) := by decide +kernel
theorem dX0_isSame_8 : decode cX0_isSame 8 = .ok (.aload_n 0, 1) := by decide +kernel
theorem dX0_isSame_9 : decode cX0_isSame 9 = .ok (.getfield 11, 3) := by decide +kernel
theorem dX0_isSame_12 : decode cX0_isSame 12 = .ok (.iload_n 2, 1) := by decide +kernel
theorem dX0_isSame_13 : decode cX0_isSame 13 = .ok (.laload, 1) := by decide +kernel
theorem dX0_isSame_14 : decode cX0_isSame 14 = .ok (.aload_n 1, 1) := by decide +kernel
theorem dX0_isSame_15 : decode cX0_isSame 15 = .ok (.getfield 11, 3) := by decide +kernel
theorem dX0_isSame_18 : decode cX0_isSame 18 = .ok (.iload_n 2, 1) := by decide +kernel
theorem dX0_isSame_19 : decode cX0_isSame 19 = .ok (.laload, 1) := by decide +kernel
theorem dX0_isSame_20 : decode cX0_isSame 20 = .ok (.lcmp, 1) := by decide +kernel
theorem dX0_isSame_21 : decode cX0_isSame 21 = .ok (.ifCond .eq 5, 3) := by decide +kernel
theorem dX0_isSame_24 : decode cX0_isSame 24 = .ok (.iconst 0, 1) := by decide +kernel
theorem dX0_isSame_25 : decode cX0_isSame 25 = .ok (.ireturn, 1) := by decide +kernel
theorem dX0_isSame_26 : decode cX0_isSame 26 = .ok (.iinc 2 1, 3) := by decide +kernel
theorem dX0_isSame_29 : decode cX0_isSame 29 = .ok (.goto (-27), 3) := by decide +kernel
theorem dX0_isSame_32 : decode cX0_isSame 32 = .ok (.iconst 1, 1) := by decide +kernel
theorem dX0_isSame_33 : decode cX0_isSame 33 = .ok (.ireturn, 1) := by decide +kernel
theorem dX2_word_0 : decode cX2_word 0 = .ok (.iload_n 1, 1) := by decide +kernel
theorem dX2_word_1 : decode cX2_word 1 = .ok (.invokestatic 23, 3) := by decide +kernel
theorem dX2_word_4 : decode cX2_word 4 = .ok (.ifCond .eq 13, 3) := by decide +kernel
theorem dX2_word_7 : decode cX2_word 7 = .ok (.iload_n 2, 1) := by decide +kernel
theorem dX2_word_8 : decode cX2_word 8 = .ok (.ifCond .lt 9, 3) := by decide +kernel
theorem dX2_word_11 : decode cX2_word 11 = .ok (.iload_n 2, 1) := by decide +kernel
theorem dX2_word_12 : decode cX2_word 12 = .ok (.bipush 63, 2) := by decide +kernel
theorem dX2_word_14 : decode cX2_word 14 = .ok (.if_icmp .lt 7, 3) := by decide +kernel
theorem dX2_word_17 : decode cX2_word 17 = .ok (.ldc2_w 76, 3) := by decide +kernel
theorem dX2_word_20 : decode cX2_word 20 = .ok (.lreturn, 1) := by decide +kernel
theorem dX2_word_21 : decode cX2_word 21 = .ok (.aload_n 0, 1) := by decide +kernel
theorem dX2_word_22 : decode cX2_word 22 = .ok (.getfield 11, 3) := by decide +kernel
theorem dX2_word_25 : decode cX2_word 25 = .ok (.iload_n 1, 1) := by decide +kernel
theorem dX2_word_26 : decode cX2_word 26 = .ok (.aaload, 1) := by decide +kernel
theorem dX2_word_27 : decode cX2_word 27 = .ok (.iload_n 2, 1) := by decide +kernel
theorem dX2_word_28 : decode cX2_word 28 = .ok (.invokevirtual 78, 3) := by decide +kernel
theorem dX2_word_31 : decode cX2_word 31 = .ok (.lreturn, 1) := by decide +kernel
theorem dX2_load_0 : decode cX2_load 0 = .ok (.iload_n 1, 1) := by decide +kernel
theorem dX2_load_1 : decode cX2_load 1 = .ok (.invokestatic 23, 3) := by decide +kernel
theorem dX2_load_4 : decode cX2_load 4 = .ok (.ifCond .ne 6, 3) := by decide +kernel
theorem dX2_load_7 : decode cX2_load 7 = .ok (.bipush (-2), 2) := by decide +kernel
theorem dX2_load_9 : decode cX2_load 9 = .ok (.ireturn, 1) := by decide +kernel
theorem dX2_load_10 : decode cX2_load 10 = .ok (.aload_n 0, 1) := by decide +kernel
theorem dX2_load_11 : decode cX2_load 11 = .ok (.getfield 11, 3) := by decide +kernel
theorem dX2_load_14 : decode cX2_load 14 = .ok (.iload_n 1, 1) := by decide +kernel
theorem dX2_load_15 : decode cX2_load 15 = .ok (.aaload, 1) := by decide +kernel
theorem dX2_load_16 : decode cX2_load 16 = .ok (.lload_n 2, 1) := by decide +kernel
theorem dX2_load_17 : decode cX2_load 17 = .ok (.lload 4, 2) := by decide +kernel
theorem dX2_load_19 : decode cX2_load 19 = .ok (.lload 6, 2) := by decide +kernel
theorem dX2_load_21 : decode cX2_load 21 = .ok (.invokevirtual 82, 3) := by decide +kernel
theorem dX2_load_24 : decode cX2_load 24 = .ok (.aload_n 0, 1) := by decide +kernel
theorem dX2_load_25 : decode cX2_load 25 = .ok (.getfield 11, 3) := by decide +kernel
end
section
theorem dX2_load_28 : decode cX2_load 28 = .ok (.iload_n 1, 1) := by decide +kernel
theorem dX2_load_29 : decode cX2_load 29 = .ok (.aaload, 1) := by decide +kernel
theorem dX2_load_30 : decode cX2_load 30 = .ok (.invokevirtual 45, 3) := by decide +kernel
theorem dX2_load_33 : decode cX2_load 33 = .ok (.ireturn, 1) := by decide +kernel
theorem dX0_takeWords_0 : decode cX0_takeWords 0 = .ok (.iconst 3, 1) := by decide +kernel
theorem dX0_takeWords_1 : decode cX0_takeWords 1 = .ok (.istore 7, 2) := by decide +kernel
theorem dX0_takeWords_3 : decode cX0_takeWords 3 = .ok (.iload 7, 2) := by decide +kernel
theorem dX0_takeWords_5 : decode cX0_takeWords 5 = .ok (.bipush 63, 2) := by decide +kernel
theorem dX0_takeWords_7 : decode cX0_takeWords 7 = .ok (.if_icmp .ge 17, 3) := by decide +kernel
theorem dX0_takeWords_10 : decode cX0_takeWords 10 = .ok (.aload_n 0, 1) := by decide +kernel
theorem dX0_takeWords_11 : decode cX0_takeWords 11 = .ok (.getfield 11, 3) := by decide +kernel
theorem dX0_takeWords_14 : decode cX0_takeWords 14 = .ok (.iload 7, 2) := by decide +kernel
theorem dX0_takeWords_16 : decode cX0_takeWords 16 = .ok (.lconst 0, 1) := by decide +kernel
theorem dX0_takeWords_17 : decode cX0_takeWords 17 = .ok (.lastore, 1) := by decide +kernel
theorem dX0_takeWords_18 : decode cX0_takeWords 18 = .ok (.iinc 7 1, 3) := by decide +kernel
theorem dX0_takeWords_21 : decode cX0_takeWords 21 = .ok (.goto (-18), 3) := by decide +kernel
theorem dX0_takeWords_24 : decode cX0_takeWords 24 = .ok (.aload_n 0, 1) := by decide +kernel
theorem dX0_takeWords_25 : decode cX0_takeWords 25 = .ok (.getfield 11, 3) := by decide +kernel
theorem dX0_takeWords_28 : decode cX0_takeWords 28 = .ok (.iconst 0, 1) := by decide +kernel
theorem dX0_takeWords_29 : decode cX0_takeWords 29 = .ok (.lload_n 1, 1) := by decide +kernel
theorem dX0_takeWords_30 : decode cX0_takeWords 30 = .ok (.lastore, 1) := by decide +kernel
theorem dX0_takeWords_31 : decode cX0_takeWords 31 = .ok (.aload_n 0, 1) := by decide +kernel
theorem dX0_takeWords_32 : decode cX0_takeWords 32 = .ok (.getfield 11, 3) := by decide +kernel
theorem dX0_takeWords_35 : decode cX0_takeWords 35 = .ok (.iconst 1, 1) := by decide +kernel
theorem dX0_takeWords_36 : decode cX0_takeWords 36 = .ok (.lload_n 3, 1) := by decide +kernel
theorem dX0_takeWords_37 : decode cX0_takeWords 37 = .ok (.lastore, 1) := by decide +kernel
theorem dX0_takeWords_38 : decode cX0_takeWords 38 = .ok (.aload_n 0, 1) := by decide +kernel
theorem dX0_takeWords_39 : decode cX0_takeWords 39 = .ok (.getfield 11, 3) := by decide +kernel
theorem dX0_takeWords_42 : decode cX0_takeWords 42 = .ok (.iconst 2, 1) := by decide +kernel
theorem dX0_takeWords_43 : decode cX0_takeWords 43 = .ok (.lload 5, 2) := by decide +kernel
theorem dX0_takeWords_45 : decode cX0_takeWords 45 = .ok (.lastore, 1) := by decide +kernel
theorem dX0_takeWords_46 : decode cX0_takeWords 46 = .ok (.return_, 1) := by decide +kernel
theorem dX2_walk_0 : decode cX2_walk 0 = .ok (.iload_n 1, 1) := by decide +kernel
theorem dX2_walk_1 : decode cX2_walk 1 = .ok (.invokestatic 23, 3) := by decide +kernel
theorem dX2_walk_4 : decode cX2_walk 4 = .ok (.ifCond .ne 7, 3) := by decide +kernel
theorem dX2_walk_7 : decode cX2_walk 7 = .ok (.ldc2_w 76, 3) := by decide +kernel
theorem dX2_walk_10 : decode cX2_walk 10 = .ok (.lreturn, 1) := by decide +kernel
theorem dX2_walk_11 : decode cX2_walk 11 = .ok (.aload_n 0, 1) := by decide +kernel
theorem dX2_walk_12 : decode cX2_walk 12 = .ok (.getfield 11, 3) := by decide +kernel
theorem dX2_walk_15 : decode cX2_walk 15 = .ok (.iload_n 1, 1) := by decide +kernel
theorem dX2_walk_16 : decode cX2_walk 16 = .ok (.aaload, 1) := by decide +kernel
theorem dX2_walk_17 : decode cX2_walk 17 = .ok (.invokevirtual 86, 3) := by decide +kernel
theorem dX2_walk_20 : decode cX2_walk 20 = .ok (.lreturn, 1) := by decide +kernel
theorem dX0_rankedSum_0 : decode cX0_rankedSum 0 = .ok (.lconst 0, 1) := by decide +kernel
theorem dX0_rankedSum_1 : decode cX0_rankedSum 1 = .ok (.lstore_n 1, 1) := by decide +kernel
theorem dX0_rankedSum_2 : decode cX0_rankedSum 2 = .ok (.lconst 0, 1) := by decide +kernel
theorem dX0_rankedSum_3 : decode cX0_rankedSum 3 = .ok (.lstore_n 3, 1) := by decide +kernel
theorem dX0_rankedSum_4 : decode cX0_rankedSum 4 = .ok (.iconst 0, 1) := by decide +kernel
theorem dX0_rankedSum_5 : decode cX0_rankedSum 5 = .ok (.istore 5, 2) := by decide +kernel
theorem dX0_rankedSum_7 : decode cX0_rankedSum 7 = .ok (.iload 5, 2) := by decide +kernel
theorem dX0_rankedSum_9 : decode cX0_rankedSum 9 = .ok (.bipush 63, 2) := by decide +kernel
theorem dX0_rankedSum_11 : decode cX0_rankedSum 11 = .ok (.if_icmp .ge 66, 3) := by decide +kernel
theorem dX0_rankedSum_14 : decode cX0_rankedSum 14 = .ok (.aload_n 0, 1) := by decide +kernel
theorem dX0_rankedSum_15 : decode cX0_rankedSum 15 = .ok (.getfield 11, 3) := by decide +kernel
theorem dX0_rankedSum_18 : decode cX0_rankedSum 18 = .ok (.iload 5, 2) := by decide +kernel
theorem dX0_rankedSum_20 : decode cX0_rankedSum 20 = .ok (.laload, 1) := by decide +kernel
theorem dX0_rankedSum_21 : decode cX0_rankedSum 21 = .ok (.lstore 6, 2) := by decide +kernel
theorem dX0_rankedSum_23 : decode cX0_rankedSum 23 = .ok (.lload 6, 2) := by decide +kernel
theorem dX0_rankedSum_25 : decode cX0_rankedSum 25 = .ok (.invokestatic 19, 3) := by decide +kernel
theorem dX0_rankedSum_28 : decode cX0_rankedSum 28 = .ok (.istore 8, 2) := by decide +kernel
theorem dX0_rankedSum_30 : decode cX0_rankedSum 30 = .ok (.iload 8, 2) := by decide +kernel
theorem dX0_rankedSum_32 : decode cX0_rankedSum 32 = .ok (.ifCond .le 39, 3) := by decide +kernel
theorem dX0_rankedSum_35 : decode cX0_rankedSum 35 = .ok (.lload_n 3, 1) := by decide +kernel
theorem dX0_rankedSum_36 : decode cX0_rankedSum 36 = .ok (.lconst 1, 1) := by decide +kernel
theorem dX0_rankedSum_37 : decode cX0_rankedSum 37 = .ok (.ladd, 1) := by decide +kernel
theorem dX0_rankedSum_38 : decode cX0_rankedSum 38 = .ok (.lstore_n 3, 1) := by decide +kernel
theorem dX0_rankedSum_39 : decode cX0_rankedSum 39 = .ok (.lload_n 1, 1) := by decide +kernel
theorem dX0_rankedSum_40 : decode cX0_rankedSum 40 = .ok (.lload_n 3, 1) := by decide +kernel
theorem dX0_rankedSum_41 : decode cX0_rankedSum 41 = .ok (.bipush 64, 2) := by decide +kernel
theorem dX0_rankedSum_43 : decode cX0_rankedSum 43 = .ok (.iload 5, 2) := by decide +kernel
theorem dX0_rankedSum_45 : decode cX0_rankedSum 45 = .ok (.imul, 1) := by decide +kernel
theorem dX0_rankedSum_46 : decode cX0_rankedSum 46 = .ok (.lload 6, 2) := by decide +kernel
theorem dX0_rankedSum_48 : decode cX0_rankedSum 48 = .ok (.invokestatic 38, 3) := by decide +kernel
theorem dX0_rankedSum_51 : decode cX0_rankedSum 51 = .ok (.iadd, 1) := by decide +kernel
theorem dX0_rankedSum_52 : decode cX0_rankedSum 52 = .ok (.i2l, 1) := by decide +kernel
theorem dX0_rankedSum_53 : decode cX0_rankedSum 53 = .ok (.lmul, 1) := by decide +kernel
theorem dX0_rankedSum_54 : decode cX0_rankedSum 54 = .ok (.ladd, 1) := by decide +kernel
theorem dX0_rankedSum_55 : decode cX0_rankedSum 55 = .ok (.lstore_n 1, 1) := by decide +kernel
theorem dX0_rankedSum_56 : decode cX0_rankedSum 56 = .ok (.lload 6, 2) := by decide +kernel
theorem dX0_rankedSum_58 : decode cX0_rankedSum 58 = .ok (.lload 6, 2) := by decide +kernel
theorem dX0_rankedSum_60 : decode cX0_rankedSum 60 = .ok (.lconst 1, 1) := by decide +kernel
theorem dX0_rankedSum_61 : decode cX0_rankedSum 61 = .ok (.lsub, 1) := by decide +kernel
theorem dX0_rankedSum_62 : decode cX0_rankedSum 62 = .ok (.land, 1) := by decide +kernel
theorem dX0_rankedSum_63 : decode cX0_rankedSum 63 = .ok (.lstore 6, 2) := by decide +kernel
theorem dX0_rankedSum_65 : decode cX0_rankedSum 65 = .ok (.iinc 8 (-1), 3) := by decide +kernel
theorem dX0_rankedSum_68 : decode cX0_rankedSum 68 = .ok (.goto (-38), 3) := by decide +kernel
theorem dX0_rankedSum_71 : decode cX0_rankedSum 71 = .ok (.iinc 5 1, 3) := by decide +kernel
theorem dX0_rankedSum_74 : decode cX0_rankedSum 74 = .ok (.goto (-67), 3) := by decide +kernel
theorem dX0_rankedSum_77 : decode cX0_rankedSum 77 = .ok (.lload_n 1, 1) := by decide +kernel
theorem dX0_rankedSum_78 : decode cX0_rankedSum 78 = .ok (.lreturn, 1) := by decide +kernel
theorem dX2_clear_0 : decode cX2_clear 0 = .ok (.iload_n 1, 1) := by decide +kernel
theorem dX2_clear_1 : decode cX2_clear 1 = .ok (.invokestatic 23, 3) := by decide +kernel
theorem dX2_clear_4 : decode cX2_clear 4 = .ok (.ifCond .ne 6, 3) := by decide +kernel
theorem dX2_clear_7 : decode cX2_clear 7 = .ok (.bipush (-2), 2) := by decide +kernel
theorem dX2_clear_9 : decode cX2_clear 9 = .ok (.ireturn, 1) := by decide +kernel
theorem dX2_clear_10 : decode cX2_clear 10 = .ok (.aload_n 0, 1) := by decide +kernel
theorem dX2_clear_11 : decode cX2_clear 11 = .ok (.getfield 11, 3) := by decide +kernel
theorem dX2_clear_14 : decode cX2_clear 14 = .ok (.iload_n 1, 1) := by decide +kernel
theorem dX2_clear_15 : decode cX2_clear 15 = .ok (.aaload, 1) := by decide +kernel
theorem dX2_clear_16 : decode cX2_clear 16 = .ok (.invokevirtual 45, 3) := by decide +kernel
theorem dX2_clear_19 : decode cX2_clear 19 = .ok (.istore_n 2, 1) := by decide +kernel
theorem dX2_clear_20 : decode cX2_clear 20 = .ok (.aload_n 0, 1) := by decide +kernel
theorem dX2_clear_21 : decode cX2_clear 21 = .ok (.getfield 11, 3) := by decide +kernel
theorem dX2_clear_24 : decode cX2_clear 24 = .ok (.iload_n 1, 1) := by decide +kernel
theorem dX2_clear_25 : decode cX2_clear 25 = .ok (.aaload, 1) := by decide +kernel
theorem dX2_clear_26 : decode cX2_clear 26 = .ok (.iconst 0, 1) := by decide +kernel
theorem dX2_clear_27 : decode cX2_clear 27 = .ok (.iconst 0, 1) := by decide +kernel
theorem dX2_clear_28 : decode cX2_clear 28 = .ok (.sipush 4001, 3) := by decide +kernel
theorem dX2_clear_31 : decode cX2_clear 31 = .ok (.invokevirtual 37, 3) := by decide +kernel
theorem dX2_clear_34 : decode cX2_clear 34 = .ok (.iload_n 2, 1) := by decide +kernel
theorem dX2_clear_35 : decode cX2_clear 35 = .ok (.ireturn, 1) := by decide +kernel
theorem dX2_text_0 : decode cX2_text 0 = .ok (.iload_n 1, 1) := by decide +kernel
theorem dX2_text_1 : decode cX2_text 1 = .ok (.invokestatic 23, 3) := by decide +kernel
theorem dX2_text_4 : decode cX2_text 4 = .ok (.ifCond .eq 18, 3) := by decide +kernel
theorem dX2_text_7 : decode cX2_text 7 = .ok (.aload_n 0, 1) := by decide +kernel
theorem dX2_text_8 : decode cX2_text 8 = .ok (.getfield 11, 3) := by decide +kernel
theorem dX2_text_11 : decode cX2_text 11 = .ok (.iload_n 1, 1) := by decide +kernel
theorem dX2_text_12 : decode cX2_text 12 = .ok (.aaload, 1) := by decide +kernel
theorem dX2_text_13 : decode cX2_text 13 = .ok (.invokevirtual 66, 3) := by decide +kernel
theorem dX2_text_16 : decode cX2_text 16 = .ok (.sipush 128, 3) := by decide +kernel
theorem dX2_text_19 : decode cX2_text 19 = .ok (.if_icmp .le 6, 3) := by decide +kernel
theorem dX2_text_22 : decode cX2_text 22 = .ok (.bipush (-2), 2) := by decide +kernel
theorem dX2_text_24 : decode cX2_text 24 = .ok (.ireturn, 1) := by decide +kernel
theorem dX2_text_25 : decode cX2_text 25 = .ok (.aload_n 0, 1) := by decide +kernel
theorem dX2_text_26 : decode cX2_text 26 = .ok (.getfield 19, 3) := by decide +kernel
theorem dX2_text_29 : decode cX2_text 29 = .ok (.aload_n 0, 1) := by decide +kernel
theorem dX2_text_30 : decode cX2_text 30 = .ok (.getfield 11, 3) := by decide +kernel
theorem dX2_text_33 : decode cX2_text 33 = .ok (.iload_n 1, 1) := by decide +kernel
theorem dX2_text_34 : decode cX2_text 34 = .ok (.aaload, 1) := by decide +kernel
theorem dX2_text_35 : decode cX2_text 35 = .ok (.invokevirtual 90, 3) := by decide +kernel
theorem dX2_text_38 : decode cX2_text 38 = .ok (.aload_n 0, 1) := by decide +kernel
theorem dX2_text_39 : decode cX2_text 39 = .ok (.getfield 19, 3) := by decide +kernel
theorem dX2_text_42 : decode cX2_text 42 = .ok (.invokevirtual 94, 3) := by decide +kernel
theorem dX2_text_45 : decode cX2_text 45 = .ok (.ireturn, 1) := by decide +kernel
theorem dX1_write_0 : decode cX1_write 0 = .ok (.aload_n 0, 1) := by decide +kernel
theorem dX1_write_1 : decode cX1_write 1 = .ok (.iconst 0, 1) := by decide +kernel
theorem dX1_write_2 : decode cX1_write 2 = .ok (.putfield 15, 3) := by decide +kernel
theorem dX1_write_5 : decode cX1_write 5 = .ok (.aload_n 0, 1) := by decide +kernel
theorem dX1_write_6 : decode cX1_write 6 = .ok (.bipush 123, 2) := by decide +kernel
theorem dX1_write_8 : decode cX1_write 8 = .ok (.invokevirtual 19, 3) := by decide +kernel
theorem dX1_write_11 : decode cX1_write 11 = .ok (.iconst 0, 1) := by decide +kernel
theorem dX1_write_12 : decode cX1_write 12 = .ok (.istore_n 2, 1) := by decide +kernel
theorem dX1_write_13 : decode cX1_write 13 = .ok (.iload_n 2, 1) := by decide +kernel
theorem dX1_write_14 : decode cX1_write 14 = .ok (.sipush 128, 3) := by decide +kernel
theorem dX1_write_17 : decode cX1_write 17 = .ok (.if_icmp .ge 23, 3) := by decide +kernel
theorem dX1_write_20 : decode cX1_write 20 = .ok (.aload_n 1, 1) := by decide +kernel
theorem dX1_write_21 : decode cX1_write 21 = .ok (.iload_n 2, 1) := by decide +kernel
theorem dX1_write_22 : decode cX1_write 22 = .ok (.invokevirtual 23, 3) := by decide +kernel
theorem dX1_write_25 : decode cX1_write 25 = .ok (.iconst 1, 1) := by decide +kernel
theorem dX1_write_26 : decode cX1_write 26 = .ok (.if_icmp .ne 8, 3) := by decide +kernel
theorem dX1_write_29 : decode cX1_write 29 = .ok (.aload_n 0, 1) := by decide +kernel
theorem dX1_write_30 : decode cX1_write 30 = .ok (.iload_n 2, 1) := by decide +kernel
theorem dX1_write_31 : decode cX1_write 31 = .ok (.invokevirtual 29, 3) := by decide +kernel
theorem dX1_write_34 : decode cX1_write 34 = .ok (.iinc 2 1, 3) := by decide +kernel
theorem dX1_write_37 : decode cX1_write 37 = .ok (.goto (-24), 3) := by decide +kernel
theorem dX1_write_40 : decode cX1_write 40 = .ok (.aload_n 0, 1) := by decide +kernel
theorem dX1_write_41 : decode cX1_write 41 = .ok (.bipush 125, 2) := by decide +kernel
theorem dX1_write_43 : decode cX1_write 43 = .ok (.invokevirtual 19, 3) := by decide +kernel
theorem dX1_write_46 : decode cX1_write 46 = .ok (.return_, 1) := by decide +kernel
theorem dX1_add_0 : decode cX1_add 0 = .ok (.aload_n 0, 1) := by decide +kernel
theorem dX1_add_1 : decode cX1_add 1 = .ok (.getfield 15, 3) := by decide +kernel
theorem dX1_add_4 : decode cX1_add 4 = .ok (.sipush 530, 3) := by decide +kernel
theorem dX1_add_7 : decode cX1_add 7 = .ok (.if_icmp .ge 23, 3) := by decide +kernel
theorem dX1_add_10 : decode cX1_add 10 = .ok (.aload_n 0, 1) := by decide +kernel
theorem dX1_add_11 : decode cX1_add 11 = .ok (.getfield 11, 3) := by decide +kernel
theorem dX1_add_14 : decode cX1_add 14 = .ok (.aload_n 0, 1) := by decide +kernel
theorem dX1_add_15 : decode cX1_add 15 = .ok (.getfield 15, 3) := by decide +kernel
theorem dX1_add_18 : decode cX1_add 18 = .ok (.iload_n 1, 1) := by decide +kernel
theorem dX1_add_19 : decode cX1_add 19 = .ok (.castore, 1) := by decide +kernel
theorem dX1_add_20 : decode cX1_add 20 = .ok (.aload_n 0, 1) := by decide +kernel
theorem dX1_add_21 : decode cX1_add 21 = .ok (.dup, 1) := by decide +kernel
theorem dX1_add_22 : decode cX1_add 22 = .ok (.getfield 15, 3) := by decide +kernel
theorem dX1_add_25 : decode cX1_add 25 = .ok (.iconst 1, 1) := by decide +kernel
theorem dX1_add_26 : decode cX1_add 26 = .ok (.iadd, 1) := by decide +kernel
theorem dX1_add_27 : decode cX1_add 27 = .ok (.putfield 15, 3) := by decide +kernel
theorem dX1_add_30 : decode cX1_add 30 = .ok (.return_, 1) := by decide +kernel
theorem dX1_addPlace_0 : decode cX1_addPlace 0 = .ok (.aload_n 0, 1) := by decide +kernel
theorem dX1_addPlace_1 : decode cX1_addPlace 1 = .ok (.getfield 15, 3) := by decide +kernel
theorem dX1_addPlace_4 : decode cX1_addPlace 4 = .ok (.iconst 1, 1) := by decide +kernel
theorem dX1_addPlace_5 : decode cX1_addPlace 5 = .ok (.if_icmp .le 15, 3) := by decide +kernel
theorem dX1_addPlace_8 : decode cX1_addPlace 8 = .ok (.aload_n 0, 1) := by decide +kernel
theorem dX1_addPlace_9 : decode cX1_addPlace 9 = .ok (.bipush 44, 2) := by decide +kernel
theorem dX1_addPlace_11 : decode cX1_addPlace 11 = .ok (.invokevirtual 19, 3) := by decide +kernel
theorem dX1_addPlace_14 : decode cX1_addPlace 14 = .ok (.aload_n 0, 1) := by decide +kernel
theorem dX1_addPlace_15 : decode cX1_addPlace 15 = .ok (.bipush 32, 2) := by decide +kernel
theorem dX1_addPlace_17 : decode cX1_addPlace 17 = .ok (.invokevirtual 19, 3) := by decide +kernel
theorem dX1_addPlace_20 : decode cX1_addPlace 20 = .ok (.iload_n 1, 1) := by decide +kernel
theorem dX1_addPlace_21 : decode cX1_addPlace 21 = .ok (.bipush 100, 2) := by decide +kernel
theorem dX1_addPlace_23 : decode cX1_addPlace 23 = .ok (.if_icmp .lt 11, 3) := by decide +kernel
theorem dX1_addPlace_26 : decode cX1_addPlace 26 = .ok (.aload_n 0, 1) := by decide +kernel
theorem dX1_addPlace_27 : decode cX1_addPlace 27 = .ok (.iload_n 1, 1) := by decide +kernel
theorem dX1_addPlace_28 : decode cX1_addPlace 28 = .ok (.bipush 100, 2) := by decide +kernel
theorem dX1_addPlace_30 : decode cX1_addPlace 30 = .ok (.idiv, 1) := by decide +kernel
theorem dX1_addPlace_31 : decode cX1_addPlace 31 = .ok (.invokevirtual 33, 3) := by decide +kernel
theorem dX1_addPlace_34 : decode cX1_addPlace 34 = .ok (.iload_n 1, 1) := by decide +kernel
theorem dX1_addPlace_35 : decode cX1_addPlace 35 = .ok (.bipush 10, 2) := by decide +kernel
theorem dX1_addPlace_37 : decode cX1_addPlace 37 = .ok (.if_icmp .lt 14, 3) := by decide +kernel
theorem dX1_addPlace_40 : decode cX1_addPlace 40 = .ok (.aload_n 0, 1) := by decide +kernel
theorem dX1_addPlace_41 : decode cX1_addPlace 41 = .ok (.iload_n 1, 1) := by decide +kernel
theorem dX1_addPlace_42 : decode cX1_addPlace 42 = .ok (.bipush 10, 2) := by decide +kernel
theorem dX1_addPlace_44 : decode cX1_addPlace 44 = .ok (.idiv, 1) := by decide +kernel
theorem dX1_addPlace_45 : decode cX1_addPlace 45 = .ok (.bipush 10, 2) := by decide +kernel
theorem dX1_addPlace_47 : decode cX1_addPlace 47 = .ok (.irem, 1) := by decide +kernel
theorem dX1_addPlace_48 : decode cX1_addPlace 48 = .ok (.invokevirtual 33, 3) := by decide +kernel
theorem dX1_addPlace_51 : decode cX1_addPlace 51 = .ok (.aload_n 0, 1) := by decide +kernel
theorem dX1_addPlace_52 : decode cX1_addPlace 52 = .ok (.iload_n 1, 1) := by decide +kernel
theorem dX1_addPlace_53 : decode cX1_addPlace 53 = .ok (.bipush 10, 2) := by decide +kernel
theorem dX1_addPlace_55 : decode cX1_addPlace 55 = .ok (.irem, 1) := by decide +kernel
theorem dX1_addPlace_56 : decode cX1_addPlace 56 = .ok (.invokevirtual 33, 3) := by decide +kernel
theorem dX1_addPlace_59 : decode cX1_addPlace 59 = .ok (.return_, 1) := by decide +kernel
theorem dX1_addDigit_0 : decode cX1_addDigit 0 = .ok (.aload_n 0, 1) := by decide +kernel
theorem dX1_addDigit_1 : decode cX1_addDigit 1 = .ok (.bipush 48, 2) := by decide +kernel
theorem dX1_addDigit_3 : decode cX1_addDigit 3 = .ok (.iload_n 1, 1) := by decide +kernel
theorem dX1_addDigit_4 : decode cX1_addDigit 4 = .ok (.iadd, 1) := by decide +kernel
theorem dX1_addDigit_5 : decode cX1_addDigit 5 = .ok (.i2c, 1) := by decide +kernel
theorem dX1_addDigit_6 : decode cX1_addDigit 6 = .ok (.invokevirtual 19, 3) := by decide +kernel
theorem dX1_addDigit_9 : decode cX1_addDigit 9 = .ok (.return_, 1) := by decide +kernel
theorem dX1_length_0 : decode cX1_length 0 = .ok (.aload_n 0, 1) := by decide +kernel
theorem dX1_length_1 : decode cX1_length 1 = .ok (.getfield 15, 3) := by decide +kernel
theorem dX1_length_4 : decode cX1_length 4 = .ok (.ireturn, 1) := by decide +kernel
theorem dX2_octet_0 : decode cX2_octet 0 = .ok (.aload_n 0, 1) := by decide +kernel
theorem dX2_octet_1 : decode cX2_octet 1 = .ok (.getfield 19, 3) := by decide +kernel
theorem dX2_octet_4 : decode cX2_octet 4 = .ok (.iload_n 1, 1) := by decide +kernel
theorem dX2_octet_5 : decode cX2_octet 5 = .ok (.invokevirtual 97, 3) := by decide +kernel
theorem dX2_octet_8 : decode cX2_octet 8 = .ok (.ireturn, 1) := by decide +kernel
theorem dX1_codeAt_0 : decode cX1_codeAt 0 = .ok (.iload_n 1, 1) := by decide +kernel
theorem dX1_codeAt_1 : decode cX1_codeAt 1 = .ok (.ifCond .lt 11, 3) := by decide +kernel
theorem dX1_codeAt_4 : decode cX1_codeAt 4 = .ok (.iload_n 1, 1) := by decide +kernel
theorem dX1_codeAt_5 : decode cX1_codeAt 5 = .ok (.aload_n 0, 1) := by decide +kernel
theorem dX1_codeAt_6 : decode cX1_codeAt 6 = .ok (.getfield 15, 3) := by decide +kernel
theorem dX1_codeAt_9 : decode cX1_codeAt 9 = .ok (.if_icmp .lt 6, 3) := by decide +kernel
theorem dX1_codeAt_12 : decode cX1_codeAt 12 = .ok (.bipush (-2), 2) := by decide +kernel
theorem dX1_codeAt_14 : decode cX1_codeAt 14 = .ok (.ireturn, 1) := by decide +kernel
theorem dX1_codeAt_15 : decode cX1_codeAt 15 = .ok (.aload_n 0, 1) := by decide +kernel
theorem dX1_codeAt_16 : decode cX1_codeAt 16 = .ok (.getfield 11, 3) := by decide +kernel
theorem dX1_codeAt_19 : decode cX1_codeAt 19 = .ok (.iload_n 1, 1) := by decide +kernel
theorem dX1_codeAt_20 : decode cX1_codeAt 20 = .ok (.caload, 1) := by decide +kernel
theorem dX1_codeAt_21 : decode cX1_codeAt 21 = .ok (.ireturn, 1) := by decide +kernel
end
section
/-! words: one list for all methods -/
theorem gi_in {big : List Cond} {c2 : Cond} (hb : ∀ w ∈ tg_, w ∈ big) (h : c2 ∈ tg_) : GoodIn big (c2 :: tg_) := by
  intro w hw
  have h1 : w ∈ tg_ := (List.mem_cons.mp hw).elim (fun e => e ▸ h) id
  exact ⟨hb w h1, good_of_word (tg_good h1)⟩
theorem gi_V {big : List Cond} {own C : String} {idx : Nat} {y : MethodName} {c2 : Cond} (hb : ∀ w ∈ tg_, w ∈ big) (h1 : (.methodLink own idx y : Cond) ∈ tg_) (h2 : (.instanceMethod y : Cond) ∈ tg_) (h3 : (.selects C y y : Cond) ∈ tg_) (h4 : (.initialized C : Cond) ∈ tg_) (h : c2 ∈ tg_) : GoodIn big (wsV own idx C y (c2 :: tg_)) := by
  intro w hw
  have h5 : w ∈ tg_ := by
    unfold wsV at hw
    rcases List.mem_append.mp hw with hw | hw
    · simp only [List.mem_cons, List.not_mem_nil, or_false] at hw
      rcases hw with rfl | rfl | rfl | rfl <;> assumption
    · exact (List.mem_cons.mp hw).elim (fun e => e ▸ h) id
  exact ⟨hb w h5, good_of_word (tg_good h5)⟩
theorem gi_S {big : List Cond} {own : String} {idx : Nat} {y : MethodName} {c2 : Cond} (hb : ∀ w ∈ tg_, w ∈ big) (h1 : (.methodLink own idx y : Cond) ∈ tg_) (h2 : (.static y : Cond) ∈ tg_) (h4 : (.initialized y.cls : Cond) ∈ tg_) (h : c2 ∈ tg_) : GoodIn big (va_wsS own idx y (c2 :: tg_)) := by
  intro w hw
  have h5 : w ∈ tg_ := by
    unfold va_wsS at hw
    rcases List.mem_append.mp hw with hw | hw
    · simp only [List.mem_cons, List.not_mem_nil, or_false] at hw
      rcases hw with rfl | rfl | rfl <;> assumption
    · exact (List.mem_cons.mp hw).elim (fun e => e ▸ h) id
  exact ⟨hb w h5, good_of_word (tg_good h5)⟩
theorem hbc {c1 : Cond} : ∀ w ∈ tg_, w ∈ c1 :: tg_ := fun _ h => List.mem_cons_of_mem _ h
theorem nI_dec {n : Nat} (h : 0 < n) : nI n + (-1) = nI (n - 1) := by
  obtain ⟨k, rfl⟩ : ∃ k, n = k + 1 := ⟨n - 1, by omega⟩
  rw [pk_m1, Nat.add_sub_cancel]
/-- a table switch's way out -/
theorem sw_out3 {x : Int32} (h0 : ¬ x = 0) (h1 : ¬ x = 1) (h2 : ¬ x = 2) : x.toInt < 0 ∨ 2 < x.toInt := by
  have a0 : ¬ x.toInt = 0 := lv_neT h0 rfl
  have a1 : ¬ x.toInt = 1 := lv_neT h1 rfl
  have a2 : ¬ x.toInt = 2 := lv_neT h2 rfl
  omega
theorem sw_out4 {x : Int32} (h0 : ¬ x = 0) (h1 : ¬ x = 1) (h2 : ¬ x = 2) (h3 : ¬ x = 3) : x.toInt < 0 ∨ 3 < x.toInt := by
  have a0 : ¬ x.toInt = 0 := lv_neT h0 rfl
  have a1 : ¬ x.toInt = 1 := lv_neT h1 rfl
  have a2 : ¬ x.toInt = 2 := lv_neT h2 rfl
  have a3 : ¬ x.toInt = 3 := lv_neT h3 rfl
  omega
/-! a system's world: a state u of type σ, its cells w u, the addresses that it owns (and all behind sz) -/
def gP {σ : Type} (D : va_G) (cl : List vw_C) (tys : List (ClassId × FieldType)) (w : σ → va_W) (aX : Nat → Nat → Prop) (sz : Nat) (u : σ) : State → Prop := fun U => U.heap.size = sz ∧ va_P D cl (w u) U.heap ∧ va_K D cl tys U ∧ va_D (aX sz) (w u)
def gB {σ : Type} (D : va_G) (cl : List vw_C) (tys : List (ClassId × FieldType)) (w : σ → va_W) (A : Nat → Prop) : σ → State → Prop := fun u U => va_P D cl (w u) U.heap ∧ va_K D cl tys U ∧ va_D A (w u)
def gMi {σ : Type} (l : Launch) (y : MethodName) (ws : List Cond) (rm : Room) (D : va_G) (cl : List vw_C) (tys : List (ClassId × FieldType)) (w : σ → va_W) (aX : Nat → Nat → Prop) (av : List Value) (u : σ) (post : Int32 → σ → Prop) : Prop :=
  ∀ sz : Nat, Met l y ws rm (va_Pc av (gP D cl tys w aX sz u)) (va_Qi post (gB D cl tys w (aX sz)) (aX sz)) 0 0 (aX sz)
def gMl {σ : Type} (l : Launch) (y : MethodName) (ws : List Cond) (rm : Room) (D : va_G) (cl : List vw_C) (tys : List (ClassId × FieldType)) (w : σ → va_W) (aX : Nat → Nat → Prop) (av : List Value) (u : σ) (post : Int64 → σ → Prop) : Prop :=
  ∀ sz : Nat, Met l y ws rm (va_Pc av (gP D cl tys w aX sz u)) (va_Ql post (gB D cl tys w (aX sz)) (aX sz)) 0 0 (aX sz)
def gMv {σ : Type} (l : Launch) (y : MethodName) (ws : List Cond) (rm : Room) (D : va_G) (cl : List vw_C) (tys : List (ClassId × FieldType)) (w : σ → va_W) (aX : Nat → Nat → Prop) (av : List Value) (u : σ) (post : σ → Prop) : Prop :=
  ∀ sz : Nat, Met l y ws rm (va_Pc av (gP D cl tys w aX sz u)) (va_Qv post (gB D cl tys w (aX sz)) (aX sz)) 0 0 (aX sz)
theorem gP_blind {σ : Type} {D : va_G} {cl : List vw_C} {tys : List (ClassId × FieldType)} {w : σ → va_W} {aX : Nat → Nat → Prop} {sz : Nat} {u : σ} {av : List Value} : FrameBlind (va_Pc av (gP D cl tys w aX sz u)) := by
  intro a U g mk q
  obtain ⟨q0, q1, qP, qK, qD⟩ := q
  exact ⟨q0, q1, qP, va_K.moved (u := U) (U := U.calling g mk a) (Vm.Alike.refl U.vm) qK, qD⟩
section GC
variable {p : Program} {l : Launch} {e : Env} {R : Room} {s : State} {m : MethodId} {args : Array Value} {below : List Frame} {meth : Method} {c : Code} {H : Heap} {locs : List Loc} {cells slots : Nat} {Q : State → Prop}
variable {pc : Nat} {ls : Array Slot} {rest st0 : List Value} {y : MethodName} {bytes cc : ByteArray} {maxL nL n index : Nat} {ret : Option FieldType} {ws Ts : List Cond} {rm : Room} {own C : String} {b : Addr} {As : List Value}
variable {σ : Type} {D : va_G} {cl : List vw_C} {tys : List (ClassId × FieldType)} {w : σ → va_W} {aX : Nat → Nat → Prop} {u : σ}
theorem gVi {post : Int32 → σ → Prop} (S : CallFix p m c cc nL s args Ts own) (hM : gMi l y ws rm D cl tys w aX (.ref b :: As) u post) (cw : CallW R s args own C index y bytes maxL ret ws rm 0 0 n)
    (hrc : ∃ cellB : Cell, H[b]? = some cellB ∧ cellB.vm.isStatics = false ∧ s.vm.findClass C = some cellB.cls) (hmono : ∀ {sz sz' q : Nat}, sz ≤ sz' → aX sz' q → aX sz q) (hself : ∀ {X : Nat → Prop} {sz : Nat} {v : σ}, va_D X (w v) → va_D (aX sz) (w v))
    (hP : va_P D cl (w u) H) (hK : va_K D cl tys s) (hD : va_D (aX s.heap.size) (w u)) (hS : va_S (aX s.heap.size) s.heap H locs) (hn : As.length = n) (hsz : ls.size = nL) (hst : st0 = As.reverse ++ .ref b :: rest) (hrm : (rest.map fun v => v.category).sum ≤ 8) (hdg : decode cc pc = .ok (.invokevirtual index, 3)) (hf : cells + 0 ≤ R.cells ∧ slots + 0 ≤ R.slots)
    (kk : ∀ (r : Int32) (v : σ) (H1 : Heap) (locs1 : List Loc), post r v → va_P D cl (w v) H1 → va_D (aX s.heap.size) (w v) → va_S (aX s.heap.size) s.heap H1 locs1 → W p l e R s m args below meth c H1 locs1 cells slots Q (F0 m (pc + 3) ls (.int r :: rest))) : W p l e R s m args below meth c H locs cells slots Q (F0 m pc ls st0) := by
  refine va_calli (va_runV S (hM H.size) cw ⟨gP_blind, hrc, fun U hU hW => ⟨rfl, by rw [hU], by rw [hU]; exact hP, va_K.moved hW.alike hK, hself hD⟩⟩ rfl hn hsz hst (lv_room hrm) hdg hf) hS (fun q _ h => hmono hS.1 h) (fun q h => hmono hS.1 h) (fun r v t H1 locs1 ht hvm hp hB hz hk hS1 => ?_)
  obtain ⟨hP1, -, hD1⟩ := hB
  rw [ht] at hP1
  exact kk r v H1 locs1 hp hP1 (hself hD1) hS1
theorem gVl {post : Int64 → σ → Prop} (S : CallFix p m c cc nL s args Ts own) (hM : gMl l y ws rm D cl tys w aX (.ref b :: As) u post) (cw : CallW R s args own C index y bytes maxL ret ws rm 0 0 n)
    (hrc : ∃ cellB : Cell, H[b]? = some cellB ∧ cellB.vm.isStatics = false ∧ s.vm.findClass C = some cellB.cls) (hmono : ∀ {sz sz' q : Nat}, sz ≤ sz' → aX sz' q → aX sz q) (hself : ∀ {X : Nat → Prop} {sz : Nat} {v : σ}, va_D X (w v) → va_D (aX sz) (w v))
    (hP : va_P D cl (w u) H) (hK : va_K D cl tys s) (hD : va_D (aX s.heap.size) (w u)) (hS : va_S (aX s.heap.size) s.heap H locs) (hn : As.length = n) (hsz : ls.size = nL) (hst : st0 = As.reverse ++ .ref b :: rest) (hrm : (rest.map fun v => v.category).sum ≤ 8) (hdg : decode cc pc = .ok (.invokevirtual index, 3)) (hf : cells + 0 ≤ R.cells ∧ slots + 0 ≤ R.slots)
    (kk : ∀ (r : Int64) (v : σ) (H1 : Heap) (locs1 : List Loc), post r v → va_P D cl (w v) H1 → va_D (aX s.heap.size) (w v) → va_S (aX s.heap.size) s.heap H1 locs1 → W p l e R s m args below meth c H1 locs1 cells slots Q (F0 m (pc + 3) ls (.long r :: rest))) : W p l e R s m args below meth c H locs cells slots Q (F0 m pc ls st0) := by
  refine va_calll (va_runV S (hM H.size) cw ⟨gP_blind, hrc, fun U hU hW => ⟨rfl, by rw [hU], by rw [hU]; exact hP, va_K.moved hW.alike hK, hself hD⟩⟩ rfl hn hsz hst (lv_room hrm) hdg hf) hS (fun q _ h => hmono hS.1 h) (fun q h => hmono hS.1 h) (fun r v t H1 locs1 ht hvm hp hB hz hk hS1 => ?_)
  obtain ⟨hP1, -, hD1⟩ := hB
  rw [ht] at hP1
  exact kk r v H1 locs1 hp hP1 (hself hD1) hS1
theorem gVv {post : σ → Prop} (S : CallFix p m c cc nL s args Ts own) (hM : gMv l y ws rm D cl tys w aX (.ref b :: As) u post) (cw : CallW R s args own C index y bytes maxL ret ws rm 0 0 n)
    (hrc : ∃ cellB : Cell, H[b]? = some cellB ∧ cellB.vm.isStatics = false ∧ s.vm.findClass C = some cellB.cls) (hmono : ∀ {sz sz' q : Nat}, sz ≤ sz' → aX sz' q → aX sz q) (hself : ∀ {X : Nat → Prop} {sz : Nat} {v : σ}, va_D X (w v) → va_D (aX sz) (w v))
    (hP : va_P D cl (w u) H) (hK : va_K D cl tys s) (hD : va_D (aX s.heap.size) (w u)) (hS : va_S (aX s.heap.size) s.heap H locs) (hn : As.length = n) (hsz : ls.size = nL) (hst : st0 = As.reverse ++ .ref b :: rest) (hrm : (rest.map fun v => v.category).sum ≤ 8) (hdg : decode cc pc = .ok (.invokevirtual index, 3)) (hf : cells + 0 ≤ R.cells ∧ slots + 0 ≤ R.slots)
    (kk : ∀ (v : σ) (H1 : Heap) (locs1 : List Loc), post v → va_P D cl (w v) H1 → va_D (aX s.heap.size) (w v) → va_S (aX s.heap.size) s.heap H1 locs1 → W p l e R s m args below meth c H1 locs1 cells slots Q (F0 m (pc + 3) ls rest)) : W p l e R s m args below meth c H locs cells slots Q (F0 m pc ls st0) := by
  refine va_callv (va_runV S (hM H.size) cw ⟨gP_blind, hrc, fun U hU hW => ⟨rfl, by rw [hU], by rw [hU]; exact hP, va_K.moved hW.alike hK, hself hD⟩⟩ rfl hn hsz hst (lv_room hrm) hdg hf) hS (fun q _ h => hmono hS.1 h) (fun q h => hmono hS.1 h) (fun v t H1 locs1 ht hvm hp hB hz hk hS1 => ?_)
  obtain ⟨hP1, -, hD1⟩ := hB
  rw [ht] at hP1
  exact kk v H1 locs1 hp hP1 (hself hD1) hS1
/-- a loop that counts up: the invariant by the count, the head's stack empty -/
theorem w_loop {N i0 : Nat} {pc : Nat} (Iv : Nat → Heap → List Loc → Array Slot → Prop) (hi0 : i0 ≤ N) (h0 : Iv i0 H locs ls)
    (step : ∀ (i : Nat) (H : Heap) (locs : List Loc) (ls : Array Slot), i0 ≤ i → i ≤ N → Iv i H locs ls → (∀ (H' : Heap) (locs' : List Loc) (ls' : Array Slot), i < N → Iv (i + 1) H' locs' ls' → W p l e R s m args below meth c H' locs' cells slots Q (F0 m pc ls' [])) → W p l e R s m args below meth c H locs cells slots Q (F0 m pc ls [])) :
    W p l e R s m args below meth c H locs cells slots Q (F0 m pc ls []) := by
  have key : ∀ (n i : Nat), i + n = N → i0 ≤ i → ∀ (H : Heap) (locs : List Loc) (ls : Array Slot), Iv i H locs ls → W p l e R s m args below meth c H locs cells slots Q (F0 m pc ls []) := by
    intro n
    induction n with
    | zero => exact fun i hi h1 H locs ls hI => step i H locs ls h1 (by omega) hI (fun _ _ _ hlt => absurd hlt (by omega))
    | succ n ih => exact fun i hi h1 H locs ls hI => step i H locs ls h1 (by omega) hI (fun H' locs' ls' _ hI' => ih (i + 1) (by omega) (by omega) H' locs' ls' hI')
  exact key (N - i0) i0 (by omega) (Nat.le_refl _) H locs ls h0
end GC
/-! the class's world -/
abbrev AdB : Type := (Nat × Nat × Nat × Nat) × ((Nat → Nat) × (Nat → Nat)) × (ClassId × (Nat → ClassId) × ClassId)
def ah_ (A : AdB) : Nat := A.1.1
def aq_ (A : AdB) : Nat := A.1.2.1
def ag_ (A : AdB) : Nat := A.1.2.2.1
def ac_ (A : AdB) : Nat := A.1.2.2.2
def ar_ (A : AdB) (j : Nat) : Nat := A.2.1.1 j
def aw_ (A : AdB) (j : Nat) : Nat := A.2.1.2 j
def kR_ (A : AdB) : ClassId := A.2.2.1
def kJ_ (A : AdB) (j : Nat) : ClassId := A.2.2.2.1 j
def kC_ (A : AdB) : ClassId := A.2.2.2.2
def rwF (A : AdB) : Nat → Option Nat := va_up (va_up (va_up (va_up (fun _ => none) 0 (some (ar_ A 0))) 1 (some (ar_ A 1))) 2 (some (ar_ A 2))) 3 (some (ar_ A 3))
theorem rwF_at (A : AdB) {j : Nat} (hj : j < 4) : rwF A j = some (ar_ A j) := by
  rcases (show j = 0 ∨ j = 1 ∨ j = 2 ∨ j = 3 by omega) with rfl | rfl | rfl | rfl <;> rfl
/-- the words of each row, the signs, how many -/
abbrev StB : Type := (Nat → Nat → Int64) × (Nat → Int32) × Int32
def wB (A : AdB) (u : StB) : va_W := [(ah_ A, .inr (2, [.ref (aq_ A), .ref (ag_ A)])), (aq_ A, .inl (kR_ A, 4, .inr (.inr (.inr (.inr (rwF A)))))), (ag_ A, .inr (1, [.ref (ac_ A), .int u.2.2])), (ac_ A, .inl (kC_ A, 530, .inl u.2.1)),
  (ar_ A 0, .inr (0, [.ref (aw_ A 0)])), (ar_ A 1, .inr (0, [.ref (aw_ A 1)])), (ar_ A 2, .inr (0, [.ref (aw_ A 2)])), (ar_ A 3, .inr (0, [.ref (aw_ A 3)])),
  (aw_ A 0, .inl (kJ_ A 0, 63, .inr (.inl (u.1 0)))), (aw_ A 1, .inl (kJ_ A 1, 63, .inr (.inl (u.1 1)))), (aw_ A 2, .inl (kJ_ A 2, 63, .inr (.inl (u.1 2)))), (aw_ A 3, .inl (kJ_ A 3, 63, .inr (.inl (u.1 3))))]
def tyB (A : AdB) : List (ClassId × FieldType) := [(kR_ A, .object RX0), (kC_ A, .char), (kJ_ A 0, .long), (kJ_ A 1, .long), (kJ_ A 2, .long), (kJ_ A 3, .long)]
def aB (A : AdB) (sz : Nat) : Nat → Prop := va_A (wB A (fun _ _ => 0, fun _ => 0, 0)) sz
def upM (M : Nat → Nat → Int64) (j : Nat) (f : Nat → Int64) : Nat → Nat → Int64 := fun k => if k = j then f else M k
theorem upM_s (M : Nat → Nat → Int64) (j : Nat) (f : Nat → Int64) : upM M j f j = f := if_pos rfl
theorem upM_n (M : Nat → Nat → Int64) {j k : Nat} (f : Nat → Int64) (h : ¬ k = j) : upM M j f k = M k := if_neg h
theorem upM_u (M : Nat → Nat → Int64) (j : Nat) (f g : Nat → Int64) : upM (upM M j f) j g = upM M j g := by
  funext k
  by_cases h : k = j
  · subst h; rw [upM_s, upM_s]
  · rw [upM_n _ _ h, upM_n _ _ h, upM_n _ _ h]
theorem upM_id (M : Nat → Nat → Int64) (j : Nat) : upM M j (M j) = M := by
  funext k
  by_cases h : k = j
  · subst h; rw [upM_s]
  · rw [upM_n _ _ h]
theorem j4 {j : Nat} (hj : j < 4) : j = 0 ∨ j = 1 ∨ j = 2 ∨ j = 3 := by omega
theorem wB_row (A : AdB) (u : StB) {j : Nat} (hj : j < 4) : (wB A u)[4 + j]? = some (ar_ A j, .inr (0, [.ref (aw_ A j)])) := by
  rcases j4 hj with rfl | rfl | rfl | rfl <;> rfl
theorem tyB_wds (A : AdB) {j : Nat} (hj : j < 4) : (tyB A)[2 + j]? = some (kJ_ A j, .long) := by
  rcases j4 hj with rfl | rfl | rfl | rfl <;> rfl
theorem wB_wds (A : AdB) (u : StB) {j : Nat} (hj : j < 4) : (wB A u)[8 + j]? = some (aw_ A j, .inl (kJ_ A j, 63, .inr (.inl (u.1 j)))) := by
  rcases j4 hj with rfl | rfl | rfl | rfl <;> rfl
theorem wB_set (A : AdB) (u : StB) {j : Nat} (hj : j < 4) (f : Nat → Int64) : (wB A u).set (8 + j) (aw_ A j, .inl (kJ_ A j, 63, .inr (.inl f))) = wB A (upM u.1 j f, u.2) := by
  rcases j4 hj with rfl | rfl | rfl | rfl <;> rfl
theorem wB_len (A : AdB) (u : StB) (n : Int32) : (wB A u).set 2 (ag_ A, .inr (1, [.ref (ac_ A), .int n])) = wB A (u.1, u.2.1, n) := rfl
theorem wB_chr (A : AdB) (u : StB) (f : Nat → Int32) : (wB A u).set 3 (ac_ A, .inl (kC_ A, 530, .inl f)) = wB A (u.1, f, u.2.2) := rfl
theorem aB_mono {A : AdB} {sz sz' q : Nat} (h : sz ≤ sz') (k : aB A sz' q) : aB A sz q := k.imp id (Nat.le_trans h)
theorem wB_at (A : AdB) (u v : StB) {k : Nat} {q : Nat × va_E} (h : (wB A u)[k]? = some q) : ∃ e, (wB A v)[k]? = some (q.1, e) := by
  have hk : k < 12 := (List.getElem?_eq_some_iff.mp h).1
  rcases (show k = 0 ∨ k = 1 ∨ k = 2 ∨ k = 3 ∨ k = 4 ∨ k = 5 ∨ k = 6 ∨ k = 7 ∨ k = 8 ∨ k = 9 ∨ k = 10 ∨ k = 11 by omega) with rfl | rfl | rfl | rfl | rfl | rfl | rfl | rfl | rfl | rfl | rfl | rfl <;> (cases h; exact ⟨_, rfl⟩)
theorem aB_D {A : AdB} {X : Nat → Prop} {sz : Nat} {v : StB} (h : va_D X (wB A v)) : va_D (aB A sz) (wB A v) := ⟨h.1, fun k q hk => by
  obtain ⟨e, he⟩ := wB_at A v (fun _ _ => 0, fun _ => 0, 0) hk
  exact Or.inl ⟨k, e, he⟩⟩
end
section
def fX2_isRow (p0 : Int32) : Int32 := if p0 < 0 then (0) else (if 4 ≤ p0 then (0) else (1))
set_option maxHeartbeats 4000000 in
set_option maxRecDepth 100000 in
theorem c_X2_isRow (l : Launch) (p0 : Int32) : Met l yX2_isRow wX2_isRow ({ frames := 0, cells := 0, slots := 0, locals := 0 }) (fun a _ => a = ([.int p0] : List Value).toArray) (vp_Si (fun r => r = fX2_isRow p0)) 0 0 (fun _ => False) := by
  refine Met.ofW (cc := cX2_isRow) (maxL := 1) (ret := (some .boolean)) (by decide) rfl ?_
  intro p e s m args below meth c s₁ B hml hv
  obtain rfl := hv
  have hx := B.exec
  have hb := B.bytes
  have hr := B.returns
  have hts := atoms_spec (ws := wX2_isRow) B.pre
  have hw : ∀ w ∈ tg_, w.before _ s = true := fun w h => hts w (List.mem_cons_of_mem _ h)
  have hown : s.vm.findClass RX2 = some m.cls := findClass_of_methodNamed B.named
  have hlocks := B.notSynchronized
  have hl := lv_entry ([.int p0]) (n := 1) (Nat.le_of_ble_eq_true rfl)
  rw [lg_entry_eq]
  generalize (lg_sl ([.int p0]) ++ List.replicate (1 - (lg_sl ([.int p0])).length) Slot.unset).toArray = ls at hl ⊢
  have hl : lv_has ls 1 [(0, .int p0)] := hl
  refine lv_iload_n hx hb dX2_isRow_0 rfl (lv_at hl 0 rfl) ?_
  refine lv_if_lt (tgt := 13) hx hb dX2_isRow_1 (by decide) (fun c1 => ?_) (fun c1 => ?_)
  · refine lv_iconst (v := 0) hx hb dX2_isRow_13 (by decide) ?_
    exact W.zret hx hb hr (rfl) (fun t ht hW => ⟨_, rfl, by unfold fX2_isRow; rw [if_pos c1], ht⟩) (fun q h => absurd h List.not_mem_nil) dX2_isRow_14
  · refine lv_iload_n hx hb dX2_isRow_4 rfl (lv_at hl 0 rfl) ?_
    refine lv_iconst (v := 4) hx hb dX2_isRow_5 (by decide) ?_
    refine lv_icmp_ge (tgt := 13) hx hb dX2_isRow_6 (by decide) (fun c2 => ?_) (fun c2 => ?_)
    · refine lv_iconst (v := 0) hx hb dX2_isRow_13 (by decide) ?_
      exact W.zret hx hb hr (rfl) (fun t ht hW => ⟨_, rfl, by unfold fX2_isRow; rw [if_neg c1, if_pos c2], ht⟩) (fun q h => absurd h List.not_mem_nil) dX2_isRow_14
    · refine lv_iconst (v := 1) hx hb dX2_isRow_9 (by decide) ?_
      refine lv_goto (tgt := 14) hx hb dX2_isRow_10 (by decide) ?_
      exact W.zret hx hb hr (rfl) (fun t ht hW => ⟨_, rfl, by unfold fX2_isRow; rw [if_neg c1, if_neg c2], ht⟩) (fun q h => absurd h List.not_mem_nil) dX2_isRow_14
def fX2_isPlace (p0 : Int32) : Int32 := if p0 < 0 then (0) else (if 4000 < p0 then (0) else (1))
set_option maxHeartbeats 4000000 in
set_option maxRecDepth 100000 in
theorem c_X2_isPlace (l : Launch) (p0 : Int32) : Met l yX2_isPlace wX2_isPlace ({ frames := 0, cells := 0, slots := 0, locals := 0 }) (fun a _ => a = ([.int p0] : List Value).toArray) (vp_Si (fun r => r = fX2_isPlace p0)) 0 0 (fun _ => False) := by
  refine Met.ofW (cc := cX2_isPlace) (maxL := 1) (ret := (some .boolean)) (by decide) rfl ?_
  intro p e s m args below meth c s₁ B hml hv
  obtain rfl := hv
  have hx := B.exec
  have hb := B.bytes
  have hr := B.returns
  have hts := atoms_spec (ws := wX2_isPlace) B.pre
  have hw : ∀ w ∈ tg_, w.before _ s = true := fun w h => hts w (List.mem_cons_of_mem _ h)
  have hown : s.vm.findClass RX2 = some m.cls := findClass_of_methodNamed B.named
  have hlocks := B.notSynchronized
  have hl := lv_entry ([.int p0]) (n := 1) (Nat.le_of_ble_eq_true rfl)
  rw [lg_entry_eq]
  generalize (lg_sl ([.int p0]) ++ List.replicate (1 - (lg_sl ([.int p0])).length) Slot.unset).toArray = ls at hl ⊢
  have hl : lv_has ls 1 [(0, .int p0)] := hl
  refine lv_iload_n hx hb dX2_isPlace_0 rfl (lv_at hl 0 rfl) ?_
  refine lv_if_lt (tgt := 15) hx hb dX2_isPlace_1 (by decide) (fun c1 => ?_) (fun c1 => ?_)
  · refine lv_iconst (v := 0) hx hb dX2_isPlace_15 (by decide) ?_
    exact W.zret hx hb hr (rfl) (fun t ht hW => ⟨_, rfl, by unfold fX2_isPlace; rw [if_pos c1], ht⟩) (fun q h => absurd h List.not_mem_nil) dX2_isPlace_16
  · refine lv_iload_n hx hb dX2_isPlace_4 rfl (lv_at hl 0 rfl) ?_
    refine lv_sipush (v := 4000) hx hb dX2_isPlace_5 (by decide) ?_
    refine lv_icmp_gt (tgt := 15) hx hb dX2_isPlace_8 (by decide) (fun c2 => ?_) (fun c2 => ?_)
    · refine lv_iconst (v := 0) hx hb dX2_isPlace_15 (by decide) ?_
      exact W.zret hx hb hr (rfl) (fun t ht hW => ⟨_, rfl, by unfold fX2_isPlace; rw [if_neg c1, if_pos c2], ht⟩) (fun q h => absurd h List.not_mem_nil) dX2_isPlace_16
    · refine lv_iconst (v := 1) hx hb dX2_isPlace_11 (by decide) ?_
      refine lv_goto (tgt := 16) hx hb dX2_isPlace_12 (by decide) ?_
      exact W.zret hx hb hr (rfl) (fun t ht hW => ⟨_, rfl, by unfold fX2_isPlace; rw [if_neg c1, if_neg c2], ht⟩) (fun q h => absurd h List.not_mem_nil) dX2_isPlace_16
def fX2_isPiece (p0 : Int32) (p1 : Int32) : Int32 := if p0 < 0 then (0) else (if p1 < p0 then (0) else (if 4001 < p1 then (0) else (1)))
set_option maxHeartbeats 4000000 in
set_option maxRecDepth 100000 in
theorem c_X2_isPiece (l : Launch) (p0 : Int32) (p1 : Int32) : Met l yX2_isPiece wX2_isPiece ({ frames := 0, cells := 0, slots := 0, locals := 0 }) (fun a _ => a = ([.int p0, .int p1] : List Value).toArray) (vp_Si (fun r => r = fX2_isPiece p0 p1)) 0 0 (fun _ => False) := by
  refine Met.ofW (cc := cX2_isPiece) (maxL := 2) (ret := (some .boolean)) (by decide) rfl ?_
  intro p e s m args below meth c s₁ B hml hv
  obtain rfl := hv
  have hx := B.exec
  have hb := B.bytes
  have hr := B.returns
  have hts := atoms_spec (ws := wX2_isPiece) B.pre
  have hw : ∀ w ∈ tg_, w.before _ s = true := fun w h => hts w (List.mem_cons_of_mem _ h)
  have hown : s.vm.findClass RX2 = some m.cls := findClass_of_methodNamed B.named
  have hlocks := B.notSynchronized
  have hl := lv_entry ([.int p0, .int p1]) (n := 2) (Nat.le_of_ble_eq_true rfl)
  rw [lg_entry_eq]
  generalize (lg_sl ([.int p0, .int p1]) ++ List.replicate (2 - (lg_sl ([.int p0, .int p1])).length) Slot.unset).toArray = ls at hl ⊢
  have hl : lv_has ls 2 [(0, .int p0), (1, .int p1)] := hl
  refine lv_iload_n hx hb dX2_isPiece_0 rfl (lv_at hl 0 rfl) ?_
  refine lv_if_lt (tgt := 20) hx hb dX2_isPiece_1 (by decide) (fun c1 => ?_) (fun c1 => ?_)
  · refine lv_iconst (v := 0) hx hb dX2_isPiece_20 (by decide) ?_
    exact W.zret hx hb hr (rfl) (fun t ht hW => ⟨_, rfl, by unfold fX2_isPiece; rw [if_pos c1], ht⟩) (fun q h => absurd h List.not_mem_nil) dX2_isPiece_21
  · refine lv_iload_n hx hb dX2_isPiece_4 rfl (lv_at hl 0 rfl) ?_
    refine lv_iload_n hx hb dX2_isPiece_5 rfl (lv_at hl 1 rfl) ?_
    refine lv_icmp_gt (tgt := 20) hx hb dX2_isPiece_6 (by decide) (fun c2 => ?_) (fun c2 => ?_)
    · refine lv_iconst (v := 0) hx hb dX2_isPiece_20 (by decide) ?_
      exact W.zret hx hb hr (rfl) (fun t ht hW => ⟨_, rfl, by unfold fX2_isPiece; rw [if_neg c1, if_pos c2], ht⟩) (fun q h => absurd h List.not_mem_nil) dX2_isPiece_21
    · refine lv_iload_n hx hb dX2_isPiece_9 rfl (lv_at hl 1 rfl) ?_
      refine lv_sipush (v := 4001) hx hb dX2_isPiece_10 (by decide) ?_
      refine lv_icmp_gt (tgt := 20) hx hb dX2_isPiece_13 (by decide) (fun c3 => ?_) (fun c3 => ?_)
      · refine lv_iconst (v := 0) hx hb dX2_isPiece_20 (by decide) ?_
        exact W.zret hx hb hr (rfl) (fun t ht hW => ⟨_, rfl, by unfold fX2_isPiece; rw [if_neg c1, if_neg c2, if_pos c3], ht⟩) (fun q h => absurd h List.not_mem_nil) dX2_isPiece_21
      · refine lv_iconst (v := 1) hx hb dX2_isPiece_16 (by decide) ?_
        refine lv_goto (tgt := 21) hx hb dX2_isPiece_17 (by decide) ?_
        exact W.zret hx hb hr (rfl) (fun t ht hW => ⟨_, rfl, by unfold fX2_isPiece; rw [if_neg c1, if_neg c2, if_neg c3], ht⟩) (fun q h => absurd h List.not_mem_nil) dX2_isPiece_21
def fX2_isChange (p0 : Int32) : Int32 := if p0 < 0 then (0) else (if 2 < p0 then (0) else (1))
set_option maxHeartbeats 4000000 in
set_option maxRecDepth 100000 in
theorem c_X2_isChange (l : Launch) (p0 : Int32) : Met l yX2_isChange wX2_isChange ({ frames := 0, cells := 0, slots := 0, locals := 0 }) (fun a _ => a = ([.int p0] : List Value).toArray) (vp_Si (fun r => r = fX2_isChange p0)) 0 0 (fun _ => False) := by
  refine Met.ofW (cc := cX2_isChange) (maxL := 1) (ret := (some .boolean)) (by decide) rfl ?_
  intro p e s m args below meth c s₁ B hml hv
  obtain rfl := hv
  have hx := B.exec
  have hb := B.bytes
  have hr := B.returns
  have hts := atoms_spec (ws := wX2_isChange) B.pre
  have hw : ∀ w ∈ tg_, w.before _ s = true := fun w h => hts w (List.mem_cons_of_mem _ h)
  have hown : s.vm.findClass RX2 = some m.cls := findClass_of_methodNamed B.named
  have hlocks := B.notSynchronized
  have hl := lv_entry ([.int p0]) (n := 1) (Nat.le_of_ble_eq_true rfl)
  rw [lg_entry_eq]
  generalize (lg_sl ([.int p0]) ++ List.replicate (1 - (lg_sl ([.int p0])).length) Slot.unset).toArray = ls at hl ⊢
  have hl : lv_has ls 1 [(0, .int p0)] := hl
  refine lv_iload_n hx hb dX2_isChange_0 rfl (lv_at hl 0 rfl) ?_
  refine lv_if_lt (tgt := 13) hx hb dX2_isChange_1 (by decide) (fun c1 => ?_) (fun c1 => ?_)
  · refine lv_iconst (v := 0) hx hb dX2_isChange_13 (by decide) ?_
    exact W.zret hx hb hr (rfl) (fun t ht hW => ⟨_, rfl, by unfold fX2_isChange; rw [if_pos c1], ht⟩) (fun q h => absurd h List.not_mem_nil) dX2_isChange_14
  · refine lv_iload_n hx hb dX2_isChange_4 rfl (lv_at hl 0 rfl) ?_
    refine lv_iconst (v := 2) hx hb dX2_isChange_5 (by decide) ?_
    refine lv_icmp_gt (tgt := 13) hx hb dX2_isChange_6 (by decide) (fun c2 => ?_) (fun c2 => ?_)
    · refine lv_iconst (v := 0) hx hb dX2_isChange_13 (by decide) ?_
      exact W.zret hx hb hr (rfl) (fun t ht hW => ⟨_, rfl, by unfold fX2_isChange; rw [if_neg c1, if_pos c2], ht⟩) (fun q h => absurd h List.not_mem_nil) dX2_isChange_14
    · refine lv_iconst (v := 1) hx hb dX2_isChange_9 (by decide) ?_
      refine lv_goto (tgt := 14) hx hb dX2_isChange_10 (by decide) ?_
      exact W.zret hx hb hr (rfl) (fun t ht hW => ⟨_, rfl, by unfold fX2_isChange; rw [if_neg c1, if_neg c2], ht⟩) (fun q h => absurd h List.not_mem_nil) dX2_isChange_14
def fX0_lowBits (p0 : Int32) : Int64 := if 0 < p0 then (if p0 < 64 then (((1 : Int64) <<< (p0.toInt64 &&& 63)) - 1) else ((-1))) else (0)
set_option maxHeartbeats 4000000 in
set_option maxRecDepth 100000 in
theorem c_X0_lowBits (l : Launch) (p0 : Int32) : Met l yX0_lowBits wX0_lowBits ({ frames := 0, cells := 0, slots := 0, locals := 0 }) (fun a _ => a = ([.int p0] : List Value).toArray) (vp_Sl (fun r => r = fX0_lowBits p0)) 0 0 (fun _ => False) := by
  refine Met.ofW (cc := cX0_lowBits) (maxL := 1) (ret := (some .long)) (by decide) rfl ?_
  intro p e s m args below meth c s₁ B hml hv
  obtain rfl := hv
  have hx := B.exec
  have hb := B.bytes
  have hr := B.returns
  have hts := atoms_spec (ws := wX0_lowBits) B.pre
  have hw : ∀ w ∈ tg_, w.before _ s = true := fun w h => hts w (List.mem_cons_of_mem _ h)
  have hown : s.vm.findClass RX0 = some m.cls := findClass_of_methodNamed B.named
  have hlocks := B.notSynchronized
  have hl := lv_entry ([.int p0]) (n := 1) (Nat.le_of_ble_eq_true rfl)
  rw [lg_entry_eq]
  generalize (lg_sl ([.int p0]) ++ List.replicate (1 - (lg_sl ([.int p0])).length) Slot.unset).toArray = ls at hl ⊢
  have hl : lv_has ls 1 [(0, .int p0)] := hl
  refine lv_iload_n hx hb dX0_lowBits_0 rfl (lv_at hl 0 rfl) ?_
  refine lv_if_gt (tgt := 6) hx hb dX0_lowBits_1 (by decide) (fun c1 => ?_) (fun c1 => ?_)
  · refine lv_iload_n hx hb dX0_lowBits_6 rfl (lv_at hl 0 rfl) ?_
    refine lv_bipush (v := 64) hx hb dX0_lowBits_7 (by decide) ?_
    refine lv_icmp_lt (tgt := 18) hx hb dX0_lowBits_9 (by decide) (fun c2 => ?_) (fun c2 => ?_)
    · refine lv_lconst (v := 1) hx hb dX0_lowBits_18 (by decide) ?_
      refine lv_iload_n hx hb dX0_lowBits_19 rfl (lv_at hl 0 rfl) ?_
      refine lv_lshl hx hb dX0_lowBits_20 rfl ?_
      refine lv_lconst (v := 1) hx hb dX0_lowBits_21 (by decide) ?_
      refine lv_lsub hx hb dX0_lowBits_22 ?_
      exact W.lret hx hb hr (fun t ht hW => ⟨_, rfl, by unfold fX0_lowBits; rw [if_pos c1, if_pos c2], ht⟩) (fun q h => absurd h List.not_mem_nil) dX0_lowBits_23
    · refine lv_ldc2 (v := (-1)) hx hb hown (hw _ tw_76) dX0_lowBits_12 ?_
      refine lv_goto (tgt := 23) hx hb dX0_lowBits_15 (by decide) ?_
      exact W.lret hx hb hr (fun t ht hW => ⟨_, rfl, by unfold fX0_lowBits; rw [if_pos c1, if_neg c2], ht⟩) (fun q h => absurd h List.not_mem_nil) dX0_lowBits_23
  · refine lv_lconst (v := 0) hx hb dX0_lowBits_4 (by decide) ?_
    exact W.lret hx hb hr (fun t ht hW => ⟨_, rfl, by unfold fX0_lowBits; rw [if_neg c1], ht⟩) (fun q h => absurd h List.not_mem_nil) dX0_lowBits_5
def fX0_changed (p0 : Int64) (p1 : Int32) (p2 : Int64) : Int64 := if p1 = 0 then (p0 &&& (p2 ^^^ (-1))) else (if p1 = 1 then (p0 ||| p2) else (p0 ^^^ p2))
set_option maxHeartbeats 4000000 in
set_option maxRecDepth 100000 in
theorem c_X0_changed (l : Launch) (p0 : Int64) (p1 : Int32) (p2 : Int64) : Met l yX0_changed wX0_changed ({ frames := 0, cells := 0, slots := 0, locals := 0 }) (fun a _ => a = ([.long p0, .int p1, .long p2] : List Value).toArray) (vp_Sl (fun r => r = fX0_changed p0 p1 p2)) 0 0 (fun _ => False) := by
  refine Met.ofW (cc := cX0_changed) (maxL := 5) (ret := (some .long)) (by decide) rfl ?_
  intro p e s m args below meth c s₁ B hml hv
  obtain rfl := hv
  have hx := B.exec
  have hb := B.bytes
  have hr := B.returns
  have hts := atoms_spec (ws := wX0_changed) B.pre
  have hw : ∀ w ∈ tg_, w.before _ s = true := fun w h => hts w (List.mem_cons_of_mem _ h)
  have hown : s.vm.findClass RX0 = some m.cls := findClass_of_methodNamed B.named
  have hlocks := B.notSynchronized
  have hl := lv_entry ([.long p0, .int p1, .long p2]) (n := 5) (Nat.le_of_ble_eq_true rfl)
  rw [lg_entry_eq]
  generalize (lg_sl ([.long p0, .int p1, .long p2]) ++ List.replicate (5 - (lg_sl ([.long p0, .int p1, .long p2])).length) Slot.unset).toArray = ls at hl ⊢
  have hl : lv_has ls 5 [(0, .long p0), (2, .int p1), (3, .long p2)] := hl
  refine lv_iload_n hx hb dX0_changed_0 rfl (lv_at hl 1 rfl) ?_
  by_cases c1 : p1 = 0
  · refine lv_lookup (off := 27) (tgt := 28) hx hb dX0_changed_1 (by decide) (by rw [c1]; decide) (by decide) ?_
    refine lv_lload_n hx hb dX0_changed_28 rfl (lv_at hl 0 rfl) ?_
    refine lv_lload_n hx hb dX0_changed_29 rfl (lv_at hl 2 rfl) ?_
    refine lv_ldc2 (v := (-1)) hx hb hown (hw _ tw_76) dX0_changed_30 ?_
    refine lv_lxor hx hb dX0_changed_33 ?_
    refine lv_land hx hb dX0_changed_34 ?_
    exact W.lret hx hb hr (fun t ht hW => ⟨_, rfl, by unfold fX0_changed; rw [if_pos c1], ht⟩) (fun q h => absurd h List.not_mem_nil) dX0_changed_35
  by_cases c2 : p1 = 1
  · refine lv_lookup (off := 35) (tgt := 36) hx hb dX0_changed_1 (by decide) (by rw [c2]; decide) (by decide) ?_
    refine lv_lload_n hx hb dX0_changed_36 rfl (lv_at hl 0 rfl) ?_
    refine lv_lload_n hx hb dX0_changed_37 rfl (lv_at hl 2 rfl) ?_
    refine lv_lor hx hb dX0_changed_38 ?_
    exact W.lret hx hb hr (fun t ht hW => ⟨_, rfl, by unfold fX0_changed; rw [if_neg c1, if_pos c2], ht⟩) (fun q h => absurd h List.not_mem_nil) dX0_changed_39
  refine lv_lookup (off := 39) (tgt := 40) hx hb dX0_changed_1 (by decide) (by show Op.lookupswitch.offset [(0, 27), (1, 35)] 39 (p1).toInt = 39; rw [lv_osw (a := 0) c1 rfl, lv_osw (a := 1) c2 rfl]; rfl) (by decide) ?_
  refine lv_lload_n hx hb dX0_changed_40 rfl (lv_at hl 0 rfl) ?_
  refine lv_lload_n hx hb dX0_changed_41 rfl (lv_at hl 2 rfl) ?_
  refine lv_lxor hx hb dX0_changed_42 ?_
  exact W.lret hx hb hr (fun t ht hW => ⟨_, rfl, by unfold fX0_changed; rw [if_neg c1, if_neg c2], ht⟩) (fun q h => absurd h List.not_mem_nil) dX0_changed_43
def fX0_combined (p0 : Int64) (p1 : Int32) (p2 : Int64) : Int64 := if p1 = 0 then (p0 &&& p2) else (if p1 = 1 then (p0 ||| p2) else (if p1 = 2 then (p0 ^^^ p2) else (p0 &&& (p2 ^^^ (-1)))))
set_option maxHeartbeats 4000000 in
set_option maxRecDepth 100000 in
theorem c_X0_combined (l : Launch) (p0 : Int64) (p1 : Int32) (p2 : Int64) : Met l yX0_combined wX0_combined ({ frames := 0, cells := 0, slots := 0, locals := 0 }) (fun a _ => a = ([.long p0, .int p1, .long p2] : List Value).toArray) (vp_Sl (fun r => r = fX0_combined p0 p1 p2)) 0 0 (fun _ => False) := by
  refine Met.ofW (cc := cX0_combined) (maxL := 5) (ret := (some .long)) (by decide) rfl ?_
  intro p e s m args below meth c s₁ B hml hv
  obtain rfl := hv
  have hx := B.exec
  have hb := B.bytes
  have hr := B.returns
  have hts := atoms_spec (ws := wX0_combined) B.pre
  have hw : ∀ w ∈ tg_, w.before _ s = true := fun w h => hts w (List.mem_cons_of_mem _ h)
  have hown : s.vm.findClass RX0 = some m.cls := findClass_of_methodNamed B.named
  have hlocks := B.notSynchronized
  have hl := lv_entry ([.long p0, .int p1, .long p2]) (n := 5) (Nat.le_of_ble_eq_true rfl)
  rw [lg_entry_eq]
  generalize (lg_sl ([.long p0, .int p1, .long p2]) ++ List.replicate (5 - (lg_sl ([.long p0, .int p1, .long p2])).length) Slot.unset).toArray = ls at hl ⊢
  have hl : lv_has ls 5 [(0, .long p0), (2, .int p1), (3, .long p2)] := hl
  refine lv_iload_n hx hb dX0_combined_0 rfl (lv_at hl 1 rfl) ?_
  by_cases c1 : p1 = 0
  · refine lv_tableIn (off := 27) (tgt := 28) hx hb dX0_combined_1 (by rw [c1]; decide) (by rw [c1]; decide) (by rw [c1]; decide) (by decide) ?_
    refine lv_lload_n hx hb dX0_combined_28 rfl (lv_at hl 0 rfl) ?_
    refine lv_lload_n hx hb dX0_combined_29 rfl (lv_at hl 2 rfl) ?_
    refine lv_land hx hb dX0_combined_30 ?_
    exact W.lret hx hb hr (fun t ht hW => ⟨_, rfl, by unfold fX0_combined; rw [if_pos c1], ht⟩) (fun q h => absurd h List.not_mem_nil) dX0_combined_31
  by_cases c2 : p1 = 1
  · refine lv_tableIn (off := 31) (tgt := 32) hx hb dX0_combined_1 (by rw [c2]; decide) (by rw [c2]; decide) (by rw [c2]; decide) (by decide) ?_
    refine lv_lload_n hx hb dX0_combined_32 rfl (lv_at hl 0 rfl) ?_
    refine lv_lload_n hx hb dX0_combined_33 rfl (lv_at hl 2 rfl) ?_
    refine lv_lor hx hb dX0_combined_34 ?_
    exact W.lret hx hb hr (fun t ht hW => ⟨_, rfl, by unfold fX0_combined; rw [if_neg c1, if_pos c2], ht⟩) (fun q h => absurd h List.not_mem_nil) dX0_combined_35
  by_cases c3 : p1 = 2
  · refine lv_tableIn (off := 35) (tgt := 36) hx hb dX0_combined_1 (by rw [c3]; decide) (by rw [c3]; decide) (by rw [c3]; decide) (by decide) ?_
    refine lv_lload_n hx hb dX0_combined_36 rfl (lv_at hl 0 rfl) ?_
    refine lv_lload_n hx hb dX0_combined_37 rfl (lv_at hl 2 rfl) ?_
    refine lv_lxor hx hb dX0_combined_38 ?_
    exact W.lret hx hb hr (fun t ht hW => ⟨_, rfl, by unfold fX0_combined; rw [if_neg c1, if_neg c2, if_pos c3], ht⟩) (fun q h => absurd h List.not_mem_nil) dX0_combined_39
  refine lv_tableOut (tgt := 40) hx hb dX0_combined_1 (sw_out3 c1 c2 c3) (by decide) ?_
  refine lv_lload_n hx hb dX0_combined_40 rfl (lv_at hl 0 rfl) ?_
  refine lv_lload_n hx hb dX0_combined_41 rfl (lv_at hl 2 rfl) ?_
  refine lv_ldc2 (v := (-1)) hx hb hown (hw _ tw_76) dX0_combined_42 ?_
  refine lv_lxor hx hb dX0_combined_45 ?_
  refine lv_land hx hb dX0_combined_46 ?_
  exact W.lret hx hb hr (fun t ht hW => ⟨_, rfl, by unfold fX0_combined; rw [if_neg c1, if_neg c2, if_neg c3], ht⟩) (fun q h => absurd h List.not_mem_nil) dX0_combined_47
def nt0 (x : Int32) : Int32 := (x ^^^ (-1)) &&& (x - 1)
def gJ6_numberOfTrailingZeros (y : Int32) : Int32 := if 0 < y then (if y ≤ 65536 then (if y ≤ 256 then (if y ≤ 16 then (if y ≤ 4 then (1 + ((y.toUInt32 >>> ((1 : Int32).toUInt32 &&& Int32.toUInt32 31)).toInt32)) else ((1 + 2) + ((((y.toUInt32 >>> ((2 : Int32).toUInt32 &&& Int32.toUInt32 31)).toInt32).toUInt32 >>> ((1 : Int32).toUInt32 &&& Int32.toUInt32 31)).toInt32))) else (if ((y.toUInt32 >>> ((4 : Int32).toUInt32 &&& Int32.toUInt32 31)).toInt32) ≤ 4 then ((1 + 4) + ((((y.toUInt32 >>> ((4 : Int32).toUInt32 &&& Int32.toUInt32 31)).toInt32).toUInt32 >>> ((1 : Int32).toUInt32 &&& Int32.toUInt32 31)).toInt32)) else (((1 + 4) + 2) + ((((((y.toUInt32 >>> ((4 : Int32).toUInt32 &&& Int32.toUInt32 31)).toInt32).toUInt32 >>> ((2 : Int32).toUInt32 &&& Int32.toUInt32 31)).toInt32).toUInt32 >>> ((1 : Int32).toUInt32 &&& Int32.toUInt32 31)).toInt32)))) else (if ((y.toUInt32 >>> ((8 : Int32).toUInt32 &&& Int32.toUInt32 31)).toInt32) ≤ 16 then (if ((y.toUInt32 >>> ((8 : Int32).toUInt32 &&& Int32.toUInt32 31)).toInt32) ≤ 4 then ((1 + 8) + ((((y.toUInt32 >>> ((8 : Int32).toUInt32 &&& Int32.toUInt32 31)).toInt32).toUInt32 >>> ((1 : Int32).toUInt32 &&& Int32.toUInt32 31)).toInt32)) else (((1 + 8) + 2) + ((((((y.toUInt32 >>> ((8 : Int32).toUInt32 &&& Int32.toUInt32 31)).toInt32).toUInt32 >>> ((2 : Int32).toUInt32 &&& Int32.toUInt32 31)).toInt32).toUInt32 >>> ((1 : Int32).toUInt32 &&& Int32.toUInt32 31)).toInt32))) else (if ((((y.toUInt32 >>> ((8 : Int32).toUInt32 &&& Int32.toUInt32 31)).toInt32).toUInt32 >>> ((4 : Int32).toUInt32 &&& Int32.toUInt32 31)).toInt32) ≤ 4 then (((1 + 8) + 4) + ((((((y.toUInt32 >>> ((8 : Int32).toUInt32 &&& Int32.toUInt32 31)).toInt32).toUInt32 >>> ((4 : Int32).toUInt32 &&& Int32.toUInt32 31)).toInt32).toUInt32 >>> ((1 : Int32).toUInt32 &&& Int32.toUInt32 31)).toInt32)) else ((((1 + 8) + 4) + 2) + ((((((((y.toUInt32 >>> ((8 : Int32).toUInt32 &&& Int32.toUInt32 31)).toInt32).toUInt32 >>> ((4 : Int32).toUInt32 &&& Int32.toUInt32 31)).toInt32).toUInt32 >>> ((2 : Int32).toUInt32 &&& Int32.toUInt32 31)).toInt32).toUInt32 >>> ((1 : Int32).toUInt32 &&& Int32.toUInt32 31)).toInt32))))) else (if ((y.toUInt32 >>> ((16 : Int32).toUInt32 &&& Int32.toUInt32 31)).toInt32) ≤ 256 then (if ((y.toUInt32 >>> ((16 : Int32).toUInt32 &&& Int32.toUInt32 31)).toInt32) ≤ 16 then (if ((y.toUInt32 >>> ((16 : Int32).toUInt32 &&& Int32.toUInt32 31)).toInt32) ≤ 4 then ((1 + 16) + ((((y.toUInt32 >>> ((16 : Int32).toUInt32 &&& Int32.toUInt32 31)).toInt32).toUInt32 >>> ((1 : Int32).toUInt32 &&& Int32.toUInt32 31)).toInt32)) else (((1 + 16) + 2) + ((((((y.toUInt32 >>> ((16 : Int32).toUInt32 &&& Int32.toUInt32 31)).toInt32).toUInt32 >>> ((2 : Int32).toUInt32 &&& Int32.toUInt32 31)).toInt32).toUInt32 >>> ((1 : Int32).toUInt32 &&& Int32.toUInt32 31)).toInt32))) else (if ((((y.toUInt32 >>> ((16 : Int32).toUInt32 &&& Int32.toUInt32 31)).toInt32).toUInt32 >>> ((4 : Int32).toUInt32 &&& Int32.toUInt32 31)).toInt32) ≤ 4 then (((1 + 16) + 4) + ((((((y.toUInt32 >>> ((16 : Int32).toUInt32 &&& Int32.toUInt32 31)).toInt32).toUInt32 >>> ((4 : Int32).toUInt32 &&& Int32.toUInt32 31)).toInt32).toUInt32 >>> ((1 : Int32).toUInt32 &&& Int32.toUInt32 31)).toInt32)) else ((((1 + 16) + 4) + 2) + ((((((((y.toUInt32 >>> ((16 : Int32).toUInt32 &&& Int32.toUInt32 31)).toInt32).toUInt32 >>> ((4 : Int32).toUInt32 &&& Int32.toUInt32 31)).toInt32).toUInt32 >>> ((2 : Int32).toUInt32 &&& Int32.toUInt32 31)).toInt32).toUInt32 >>> ((1 : Int32).toUInt32 &&& Int32.toUInt32 31)).toInt32)))) else (if ((((y.toUInt32 >>> ((16 : Int32).toUInt32 &&& Int32.toUInt32 31)).toInt32).toUInt32 >>> ((8 : Int32).toUInt32 &&& Int32.toUInt32 31)).toInt32) ≤ 16 then (if ((((y.toUInt32 >>> ((16 : Int32).toUInt32 &&& Int32.toUInt32 31)).toInt32).toUInt32 >>> ((8 : Int32).toUInt32 &&& Int32.toUInt32 31)).toInt32) ≤ 4 then (((1 + 16) + 8) + ((((((y.toUInt32 >>> ((16 : Int32).toUInt32 &&& Int32.toUInt32 31)).toInt32).toUInt32 >>> ((8 : Int32).toUInt32 &&& Int32.toUInt32 31)).toInt32).toUInt32 >>> ((1 : Int32).toUInt32 &&& Int32.toUInt32 31)).toInt32)) else ((((1 + 16) + 8) + 2) + ((((((((y.toUInt32 >>> ((16 : Int32).toUInt32 &&& Int32.toUInt32 31)).toInt32).toUInt32 >>> ((8 : Int32).toUInt32 &&& Int32.toUInt32 31)).toInt32).toUInt32 >>> ((2 : Int32).toUInt32 &&& Int32.toUInt32 31)).toInt32).toUInt32 >>> ((1 : Int32).toUInt32 &&& Int32.toUInt32 31)).toInt32))) else (if ((((((y.toUInt32 >>> ((16 : Int32).toUInt32 &&& Int32.toUInt32 31)).toInt32).toUInt32 >>> ((8 : Int32).toUInt32 &&& Int32.toUInt32 31)).toInt32).toUInt32 >>> ((4 : Int32).toUInt32 &&& Int32.toUInt32 31)).toInt32) ≤ 4 then ((((1 + 16) + 8) + 4) + ((((((((y.toUInt32 >>> ((16 : Int32).toUInt32 &&& Int32.toUInt32 31)).toInt32).toUInt32 >>> ((8 : Int32).toUInt32 &&& Int32.toUInt32 31)).toInt32).toUInt32 >>> ((4 : Int32).toUInt32 &&& Int32.toUInt32 31)).toInt32).toUInt32 >>> ((1 : Int32).toUInt32 &&& Int32.toUInt32 31)).toInt32)) else (((((1 + 16) + 8) + 4) + 2) + ((((((((((y.toUInt32 >>> ((16 : Int32).toUInt32 &&& Int32.toUInt32 31)).toInt32).toUInt32 >>> ((8 : Int32).toUInt32 &&& Int32.toUInt32 31)).toInt32).toUInt32 >>> ((4 : Int32).toUInt32 &&& Int32.toUInt32 31)).toInt32).toUInt32 >>> ((2 : Int32).toUInt32 &&& Int32.toUInt32 31)).toInt32).toUInt32 >>> ((1 : Int32).toUInt32 &&& Int32.toUInt32 31)).toInt32)))))) else (y &&& 32)
def fJ6_numberOfTrailingZeros (p0 : Int32) : Int32 := gJ6_numberOfTrailingZeros (nt0 p0)
set_option maxHeartbeats 4000000 in
set_option maxRecDepth 100000 in
theorem c_J6_numberOfTrailingZeros (l : Launch) (p0 : Int32) : Met l yJ6_numberOfTrailingZeros wJ6_numberOfTrailingZeros ({ frames := 0, cells := 0, slots := 0, locals := 0 }) (fun a _ => a = ([.int p0] : List Value).toArray) (vp_Si (fun r => r = fJ6_numberOfTrailingZeros p0)) 0 0 (fun _ => False) := by
  refine Met.ofW (cc := cJ6_numberOfTrailingZeros) (maxL := 2) (ret := (some .int)) (by decide) rfl ?_
  intro p e s m args below meth c s₁ B hml hv
  obtain rfl := hv
  have hx := B.exec
  have hb := B.bytes
  have hr := B.returns
  have hts := atoms_spec (ws := wJ6_numberOfTrailingZeros) B.pre
  have hw : ∀ w ∈ tg_, w.before _ s = true := fun w h => hts w (List.mem_cons_of_mem _ h)
  have hown : s.vm.findClass RJ6 = some m.cls := findClass_of_methodNamed B.named
  have hlocks := B.notSynchronized
  have hl := lv_entry ([.int p0]) (n := 2) (Nat.le_of_ble_eq_true rfl)
  rw [lg_entry_eq]
  generalize (lg_sl ([.int p0]) ++ List.replicate (2 - (lg_sl ([.int p0])).length) Slot.unset).toArray = ls at hl ⊢
  have hl : lv_has ls 2 [(0, .int p0)] := hl
  refine lv_iload_n hx hb dJ6_numberOfTrailingZeros_0 rfl (lv_at hl 0 rfl) ?_
  refine lv_iconst (v := -1) hx hb dJ6_numberOfTrailingZeros_1 (by decide) ?_
  refine lv_ixor hx hb dJ6_numberOfTrailingZeros_2 ?_
  refine lv_iload_n hx hb dJ6_numberOfTrailingZeros_3 rfl (lv_at hl 0 rfl) ?_
  refine lv_iconst (v := 1) hx hb dJ6_numberOfTrailingZeros_4 (by decide) ?_
  refine lv_isub hx hb dJ6_numberOfTrailingZeros_5 ?_
  refine lv_iand hx hb dJ6_numberOfTrailingZeros_6 ?_
  refine lv_istore_n (lv' := [(0, .int (nt0 p0))]) hx hb dJ6_numberOfTrailingZeros_7 rfl hl (by decide) rfl (fun ls hl => ?_)
  refine lv_iload_n hx hb dJ6_numberOfTrailingZeros_8 rfl (lv_at hl 0 rfl) ?_
  refine lv_if_gt (tgt := 17) hx hb dJ6_numberOfTrailingZeros_9 (by decide) (fun c1 => ?_) (fun c1 => ?_)
  · refine lv_iconst (v := 1) hx hb dJ6_numberOfTrailingZeros_17 (by decide) ?_
    refine lv_istore_n (lv' := [(1, .int 1), (0, .int (nt0 p0))]) hx hb dJ6_numberOfTrailingZeros_18 rfl hl (by decide) rfl (fun ls hl => ?_)
    refine lv_iload_n hx hb dJ6_numberOfTrailingZeros_19 rfl (lv_at hl 1 rfl) ?_
    refine lv_ldcw (v := 65536) hx hb hown (hw _ tw_115) dJ6_numberOfTrailingZeros_20 ?_
    refine lv_icmp_le (tgt := 34) hx hb dJ6_numberOfTrailingZeros_23 (by decide) (fun c2 => ?_) (fun c2 => ?_)
    · refine lv_iload_n hx hb dJ6_numberOfTrailingZeros_34 rfl (lv_at hl 1 rfl) ?_
      refine lv_sipush (v := 256) hx hb dJ6_numberOfTrailingZeros_35 (by decide) ?_
      refine lv_icmp_le (tgt := 49) hx hb dJ6_numberOfTrailingZeros_38 (by decide) (fun c3 => ?_) (fun c3 => ?_)
      · refine lv_iload_n hx hb dJ6_numberOfTrailingZeros_49 rfl (lv_at hl 1 rfl) ?_
        refine lv_bipush (v := 16) hx hb dJ6_numberOfTrailingZeros_50 (by decide) ?_
        refine lv_icmp_le (tgt := 62) hx hb dJ6_numberOfTrailingZeros_52 (by decide) (fun c4 => ?_) (fun c4 => ?_)
        · refine lv_iload_n hx hb dJ6_numberOfTrailingZeros_62 rfl (lv_at hl 1 rfl) ?_
          refine lv_iconst (v := 4) hx hb dJ6_numberOfTrailingZeros_63 (by decide) ?_
          refine lv_icmp_le (tgt := 74) hx hb dJ6_numberOfTrailingZeros_64 (by decide) (fun c5 => ?_) (fun c5 => ?_)
          · refine lv_iload_n hx hb dJ6_numberOfTrailingZeros_74 rfl (lv_at hl 0 rfl) ?_
            refine lv_iload_n hx hb dJ6_numberOfTrailingZeros_75 rfl (lv_at hl 1 rfl) ?_
            refine lv_iconst (v := 1) hx hb dJ6_numberOfTrailingZeros_76 (by decide) ?_
            refine lv_iushr hx hb dJ6_numberOfTrailingZeros_77 rfl ?_
            refine lv_iadd hx hb dJ6_numberOfTrailingZeros_78 ?_
            exact W.iret hx hb hr (fun t ht hW => ⟨_, rfl, by unfold fJ6_numberOfTrailingZeros gJ6_numberOfTrailingZeros; rw [if_pos c1, if_pos c2, if_pos c3, if_pos c4, if_pos c5], ht⟩) (fun q h => absurd h List.not_mem_nil) dJ6_numberOfTrailingZeros_79
          · refine lv_iinc (v := 1 + 2) (lv' := [(1, .int (1 + 2)), (0, .int (nt0 p0))]) hx hb dJ6_numberOfTrailingZeros_67 hl (k := 0) rfl (rfl) (by decide) rfl (fun ls hl => ?_)
            refine lv_iload_n hx hb dJ6_numberOfTrailingZeros_70 rfl (lv_at hl 1 rfl) ?_
            refine lv_iconst (v := 2) hx hb dJ6_numberOfTrailingZeros_71 (by decide) ?_
            refine lv_iushr hx hb dJ6_numberOfTrailingZeros_72 rfl ?_
            refine lv_istore_n (lv' := [(0, .int (((nt0 p0).toUInt32 >>> ((2 : Int32).toUInt32 &&& Int32.toUInt32 31)).toInt32)), (1, .int (1 + 2))]) hx hb dJ6_numberOfTrailingZeros_73 rfl hl (by decide) rfl (fun ls hl => ?_)
            refine lv_iload_n hx hb dJ6_numberOfTrailingZeros_74 rfl (lv_at hl 1 rfl) ?_
            refine lv_iload_n hx hb dJ6_numberOfTrailingZeros_75 rfl (lv_at hl 0 rfl) ?_
            refine lv_iconst (v := 1) hx hb dJ6_numberOfTrailingZeros_76 (by decide) ?_
            refine lv_iushr hx hb dJ6_numberOfTrailingZeros_77 rfl ?_
            refine lv_iadd hx hb dJ6_numberOfTrailingZeros_78 ?_
            exact W.iret hx hb hr (fun t ht hW => ⟨_, rfl, by unfold fJ6_numberOfTrailingZeros gJ6_numberOfTrailingZeros; rw [if_pos c1, if_pos c2, if_pos c3, if_pos c4, if_neg c5], ht⟩) (fun q h => absurd h List.not_mem_nil) dJ6_numberOfTrailingZeros_79
        · refine lv_iinc (v := 1 + 4) (lv' := [(1, .int (1 + 4)), (0, .int (nt0 p0))]) hx hb dJ6_numberOfTrailingZeros_55 hl (k := 0) rfl (rfl) (by decide) rfl (fun ls hl => ?_)
          refine lv_iload_n hx hb dJ6_numberOfTrailingZeros_58 rfl (lv_at hl 1 rfl) ?_
          refine lv_iconst (v := 4) hx hb dJ6_numberOfTrailingZeros_59 (by decide) ?_
          refine lv_iushr hx hb dJ6_numberOfTrailingZeros_60 rfl ?_
          refine lv_istore_n (lv' := [(0, .int (((nt0 p0).toUInt32 >>> ((4 : Int32).toUInt32 &&& Int32.toUInt32 31)).toInt32)), (1, .int (1 + 4))]) hx hb dJ6_numberOfTrailingZeros_61 rfl hl (by decide) rfl (fun ls hl => ?_)
          refine lv_iload_n hx hb dJ6_numberOfTrailingZeros_62 rfl (lv_at hl 0 rfl) ?_
          refine lv_iconst (v := 4) hx hb dJ6_numberOfTrailingZeros_63 (by decide) ?_
          refine lv_icmp_le (tgt := 74) hx hb dJ6_numberOfTrailingZeros_64 (by decide) (fun c6 => ?_) (fun c6 => ?_)
          · refine lv_iload_n hx hb dJ6_numberOfTrailingZeros_74 rfl (lv_at hl 1 rfl) ?_
            refine lv_iload_n hx hb dJ6_numberOfTrailingZeros_75 rfl (lv_at hl 0 rfl) ?_
            refine lv_iconst (v := 1) hx hb dJ6_numberOfTrailingZeros_76 (by decide) ?_
            refine lv_iushr hx hb dJ6_numberOfTrailingZeros_77 rfl ?_
            refine lv_iadd hx hb dJ6_numberOfTrailingZeros_78 ?_
            exact W.iret hx hb hr (fun t ht hW => ⟨_, rfl, by unfold fJ6_numberOfTrailingZeros gJ6_numberOfTrailingZeros; rw [if_pos c1, if_pos c2, if_pos c3, if_neg c4, if_pos c6], ht⟩) (fun q h => absurd h List.not_mem_nil) dJ6_numberOfTrailingZeros_79
          · refine lv_iinc (v := (1 + 4) + 2) (lv' := [(1, .int ((1 + 4) + 2)), (0, .int (((nt0 p0).toUInt32 >>> ((4 : Int32).toUInt32 &&& Int32.toUInt32 31)).toInt32))]) hx hb dJ6_numberOfTrailingZeros_67 hl (k := 1) rfl (rfl) (by decide) rfl (fun ls hl => ?_)
            refine lv_iload_n hx hb dJ6_numberOfTrailingZeros_70 rfl (lv_at hl 1 rfl) ?_
            refine lv_iconst (v := 2) hx hb dJ6_numberOfTrailingZeros_71 (by decide) ?_
            refine lv_iushr hx hb dJ6_numberOfTrailingZeros_72 rfl ?_
            refine lv_istore_n (lv' := [(0, .int (((((nt0 p0).toUInt32 >>> ((4 : Int32).toUInt32 &&& Int32.toUInt32 31)).toInt32).toUInt32 >>> ((2 : Int32).toUInt32 &&& Int32.toUInt32 31)).toInt32)), (1, .int ((1 + 4) + 2))]) hx hb dJ6_numberOfTrailingZeros_73 rfl hl (by decide) rfl (fun ls hl => ?_)
            refine lv_iload_n hx hb dJ6_numberOfTrailingZeros_74 rfl (lv_at hl 1 rfl) ?_
            refine lv_iload_n hx hb dJ6_numberOfTrailingZeros_75 rfl (lv_at hl 0 rfl) ?_
            refine lv_iconst (v := 1) hx hb dJ6_numberOfTrailingZeros_76 (by decide) ?_
            refine lv_iushr hx hb dJ6_numberOfTrailingZeros_77 rfl ?_
            refine lv_iadd hx hb dJ6_numberOfTrailingZeros_78 ?_
            exact W.iret hx hb hr (fun t ht hW => ⟨_, rfl, by unfold fJ6_numberOfTrailingZeros gJ6_numberOfTrailingZeros; rw [if_pos c1, if_pos c2, if_pos c3, if_neg c4, if_neg c6], ht⟩) (fun q h => absurd h List.not_mem_nil) dJ6_numberOfTrailingZeros_79
      · refine lv_iinc (v := 1 + 8) (lv' := [(1, .int (1 + 8)), (0, .int (nt0 p0))]) hx hb dJ6_numberOfTrailingZeros_41 hl (k := 0) rfl (rfl) (by decide) rfl (fun ls hl => ?_)
        refine lv_iload_n hx hb dJ6_numberOfTrailingZeros_44 rfl (lv_at hl 1 rfl) ?_
        refine lv_bipush (v := 8) hx hb dJ6_numberOfTrailingZeros_45 (by decide) ?_
        refine lv_iushr hx hb dJ6_numberOfTrailingZeros_47 rfl ?_
        refine lv_istore_n (lv' := [(0, .int (((nt0 p0).toUInt32 >>> ((8 : Int32).toUInt32 &&& Int32.toUInt32 31)).toInt32)), (1, .int (1 + 8))]) hx hb dJ6_numberOfTrailingZeros_48 rfl hl (by decide) rfl (fun ls hl => ?_)
        refine lv_iload_n hx hb dJ6_numberOfTrailingZeros_49 rfl (lv_at hl 0 rfl) ?_
        refine lv_bipush (v := 16) hx hb dJ6_numberOfTrailingZeros_50 (by decide) ?_
        refine lv_icmp_le (tgt := 62) hx hb dJ6_numberOfTrailingZeros_52 (by decide) (fun c7 => ?_) (fun c7 => ?_)
        · refine lv_iload_n hx hb dJ6_numberOfTrailingZeros_62 rfl (lv_at hl 0 rfl) ?_
          refine lv_iconst (v := 4) hx hb dJ6_numberOfTrailingZeros_63 (by decide) ?_
          refine lv_icmp_le (tgt := 74) hx hb dJ6_numberOfTrailingZeros_64 (by decide) (fun c8 => ?_) (fun c8 => ?_)
          · refine lv_iload_n hx hb dJ6_numberOfTrailingZeros_74 rfl (lv_at hl 1 rfl) ?_
            refine lv_iload_n hx hb dJ6_numberOfTrailingZeros_75 rfl (lv_at hl 0 rfl) ?_
            refine lv_iconst (v := 1) hx hb dJ6_numberOfTrailingZeros_76 (by decide) ?_
            refine lv_iushr hx hb dJ6_numberOfTrailingZeros_77 rfl ?_
            refine lv_iadd hx hb dJ6_numberOfTrailingZeros_78 ?_
            exact W.iret hx hb hr (fun t ht hW => ⟨_, rfl, by unfold fJ6_numberOfTrailingZeros gJ6_numberOfTrailingZeros; rw [if_pos c1, if_pos c2, if_neg c3, if_pos c7, if_pos c8], ht⟩) (fun q h => absurd h List.not_mem_nil) dJ6_numberOfTrailingZeros_79
          · refine lv_iinc (v := (1 + 8) + 2) (lv' := [(1, .int ((1 + 8) + 2)), (0, .int (((nt0 p0).toUInt32 >>> ((8 : Int32).toUInt32 &&& Int32.toUInt32 31)).toInt32))]) hx hb dJ6_numberOfTrailingZeros_67 hl (k := 1) rfl (rfl) (by decide) rfl (fun ls hl => ?_)
            refine lv_iload_n hx hb dJ6_numberOfTrailingZeros_70 rfl (lv_at hl 1 rfl) ?_
            refine lv_iconst (v := 2) hx hb dJ6_numberOfTrailingZeros_71 (by decide) ?_
            refine lv_iushr hx hb dJ6_numberOfTrailingZeros_72 rfl ?_
            refine lv_istore_n (lv' := [(0, .int (((((nt0 p0).toUInt32 >>> ((8 : Int32).toUInt32 &&& Int32.toUInt32 31)).toInt32).toUInt32 >>> ((2 : Int32).toUInt32 &&& Int32.toUInt32 31)).toInt32)), (1, .int ((1 + 8) + 2))]) hx hb dJ6_numberOfTrailingZeros_73 rfl hl (by decide) rfl (fun ls hl => ?_)
            refine lv_iload_n hx hb dJ6_numberOfTrailingZeros_74 rfl (lv_at hl 1 rfl) ?_
            refine lv_iload_n hx hb dJ6_numberOfTrailingZeros_75 rfl (lv_at hl 0 rfl) ?_
            refine lv_iconst (v := 1) hx hb dJ6_numberOfTrailingZeros_76 (by decide) ?_
            refine lv_iushr hx hb dJ6_numberOfTrailingZeros_77 rfl ?_
            refine lv_iadd hx hb dJ6_numberOfTrailingZeros_78 ?_
            exact W.iret hx hb hr (fun t ht hW => ⟨_, rfl, by unfold fJ6_numberOfTrailingZeros gJ6_numberOfTrailingZeros; rw [if_pos c1, if_pos c2, if_neg c3, if_pos c7, if_neg c8], ht⟩) (fun q h => absurd h List.not_mem_nil) dJ6_numberOfTrailingZeros_79
        · refine lv_iinc (v := (1 + 8) + 4) (lv' := [(1, .int ((1 + 8) + 4)), (0, .int (((nt0 p0).toUInt32 >>> ((8 : Int32).toUInt32 &&& Int32.toUInt32 31)).toInt32))]) hx hb dJ6_numberOfTrailingZeros_55 hl (k := 1) rfl (rfl) (by decide) rfl (fun ls hl => ?_)
          refine lv_iload_n hx hb dJ6_numberOfTrailingZeros_58 rfl (lv_at hl 1 rfl) ?_
          refine lv_iconst (v := 4) hx hb dJ6_numberOfTrailingZeros_59 (by decide) ?_
          refine lv_iushr hx hb dJ6_numberOfTrailingZeros_60 rfl ?_
          refine lv_istore_n (lv' := [(0, .int (((((nt0 p0).toUInt32 >>> ((8 : Int32).toUInt32 &&& Int32.toUInt32 31)).toInt32).toUInt32 >>> ((4 : Int32).toUInt32 &&& Int32.toUInt32 31)).toInt32)), (1, .int ((1 + 8) + 4))]) hx hb dJ6_numberOfTrailingZeros_61 rfl hl (by decide) rfl (fun ls hl => ?_)
          refine lv_iload_n hx hb dJ6_numberOfTrailingZeros_62 rfl (lv_at hl 0 rfl) ?_
          refine lv_iconst (v := 4) hx hb dJ6_numberOfTrailingZeros_63 (by decide) ?_
          refine lv_icmp_le (tgt := 74) hx hb dJ6_numberOfTrailingZeros_64 (by decide) (fun c9 => ?_) (fun c9 => ?_)
          · refine lv_iload_n hx hb dJ6_numberOfTrailingZeros_74 rfl (lv_at hl 1 rfl) ?_
            refine lv_iload_n hx hb dJ6_numberOfTrailingZeros_75 rfl (lv_at hl 0 rfl) ?_
            refine lv_iconst (v := 1) hx hb dJ6_numberOfTrailingZeros_76 (by decide) ?_
            refine lv_iushr hx hb dJ6_numberOfTrailingZeros_77 rfl ?_
            refine lv_iadd hx hb dJ6_numberOfTrailingZeros_78 ?_
            exact W.iret hx hb hr (fun t ht hW => ⟨_, rfl, by unfold fJ6_numberOfTrailingZeros gJ6_numberOfTrailingZeros; rw [if_pos c1, if_pos c2, if_neg c3, if_neg c7, if_pos c9], ht⟩) (fun q h => absurd h List.not_mem_nil) dJ6_numberOfTrailingZeros_79
          · refine lv_iinc (v := ((1 + 8) + 4) + 2) (lv' := [(1, .int (((1 + 8) + 4) + 2)), (0, .int (((((nt0 p0).toUInt32 >>> ((8 : Int32).toUInt32 &&& Int32.toUInt32 31)).toInt32).toUInt32 >>> ((4 : Int32).toUInt32 &&& Int32.toUInt32 31)).toInt32))]) hx hb dJ6_numberOfTrailingZeros_67 hl (k := 1) rfl (rfl) (by decide) rfl (fun ls hl => ?_)
            refine lv_iload_n hx hb dJ6_numberOfTrailingZeros_70 rfl (lv_at hl 1 rfl) ?_
            refine lv_iconst (v := 2) hx hb dJ6_numberOfTrailingZeros_71 (by decide) ?_
            refine lv_iushr hx hb dJ6_numberOfTrailingZeros_72 rfl ?_
            refine lv_istore_n (lv' := [(0, .int (((((((nt0 p0).toUInt32 >>> ((8 : Int32).toUInt32 &&& Int32.toUInt32 31)).toInt32).toUInt32 >>> ((4 : Int32).toUInt32 &&& Int32.toUInt32 31)).toInt32).toUInt32 >>> ((2 : Int32).toUInt32 &&& Int32.toUInt32 31)).toInt32)), (1, .int (((1 + 8) + 4) + 2))]) hx hb dJ6_numberOfTrailingZeros_73 rfl hl (by decide) rfl (fun ls hl => ?_)
            refine lv_iload_n hx hb dJ6_numberOfTrailingZeros_74 rfl (lv_at hl 1 rfl) ?_
            refine lv_iload_n hx hb dJ6_numberOfTrailingZeros_75 rfl (lv_at hl 0 rfl) ?_
            refine lv_iconst (v := 1) hx hb dJ6_numberOfTrailingZeros_76 (by decide) ?_
            refine lv_iushr hx hb dJ6_numberOfTrailingZeros_77 rfl ?_
            refine lv_iadd hx hb dJ6_numberOfTrailingZeros_78 ?_
            exact W.iret hx hb hr (fun t ht hW => ⟨_, rfl, by unfold fJ6_numberOfTrailingZeros gJ6_numberOfTrailingZeros; rw [if_pos c1, if_pos c2, if_neg c3, if_neg c7, if_neg c9], ht⟩) (fun q h => absurd h List.not_mem_nil) dJ6_numberOfTrailingZeros_79
    · refine lv_iinc (v := 1 + 16) (lv' := [(1, .int (1 + 16)), (0, .int (nt0 p0))]) hx hb dJ6_numberOfTrailingZeros_26 hl (k := 0) rfl (rfl) (by decide) rfl (fun ls hl => ?_)
      refine lv_iload_n hx hb dJ6_numberOfTrailingZeros_29 rfl (lv_at hl 1 rfl) ?_
      refine lv_bipush (v := 16) hx hb dJ6_numberOfTrailingZeros_30 (by decide) ?_
      refine lv_iushr hx hb dJ6_numberOfTrailingZeros_32 rfl ?_
      refine lv_istore_n (lv' := [(0, .int (((nt0 p0).toUInt32 >>> ((16 : Int32).toUInt32 &&& Int32.toUInt32 31)).toInt32)), (1, .int (1 + 16))]) hx hb dJ6_numberOfTrailingZeros_33 rfl hl (by decide) rfl (fun ls hl => ?_)
      refine lv_iload_n hx hb dJ6_numberOfTrailingZeros_34 rfl (lv_at hl 0 rfl) ?_
      refine lv_sipush (v := 256) hx hb dJ6_numberOfTrailingZeros_35 (by decide) ?_
      refine lv_icmp_le (tgt := 49) hx hb dJ6_numberOfTrailingZeros_38 (by decide) (fun c10 => ?_) (fun c10 => ?_)
      · refine lv_iload_n hx hb dJ6_numberOfTrailingZeros_49 rfl (lv_at hl 0 rfl) ?_
        refine lv_bipush (v := 16) hx hb dJ6_numberOfTrailingZeros_50 (by decide) ?_
        refine lv_icmp_le (tgt := 62) hx hb dJ6_numberOfTrailingZeros_52 (by decide) (fun c11 => ?_) (fun c11 => ?_)
        · refine lv_iload_n hx hb dJ6_numberOfTrailingZeros_62 rfl (lv_at hl 0 rfl) ?_
          refine lv_iconst (v := 4) hx hb dJ6_numberOfTrailingZeros_63 (by decide) ?_
          refine lv_icmp_le (tgt := 74) hx hb dJ6_numberOfTrailingZeros_64 (by decide) (fun c12 => ?_) (fun c12 => ?_)
          · refine lv_iload_n hx hb dJ6_numberOfTrailingZeros_74 rfl (lv_at hl 1 rfl) ?_
            refine lv_iload_n hx hb dJ6_numberOfTrailingZeros_75 rfl (lv_at hl 0 rfl) ?_
            refine lv_iconst (v := 1) hx hb dJ6_numberOfTrailingZeros_76 (by decide) ?_
            refine lv_iushr hx hb dJ6_numberOfTrailingZeros_77 rfl ?_
            refine lv_iadd hx hb dJ6_numberOfTrailingZeros_78 ?_
            exact W.iret hx hb hr (fun t ht hW => ⟨_, rfl, by unfold fJ6_numberOfTrailingZeros gJ6_numberOfTrailingZeros; rw [if_pos c1, if_neg c2, if_pos c10, if_pos c11, if_pos c12], ht⟩) (fun q h => absurd h List.not_mem_nil) dJ6_numberOfTrailingZeros_79
          · refine lv_iinc (v := (1 + 16) + 2) (lv' := [(1, .int ((1 + 16) + 2)), (0, .int (((nt0 p0).toUInt32 >>> ((16 : Int32).toUInt32 &&& Int32.toUInt32 31)).toInt32))]) hx hb dJ6_numberOfTrailingZeros_67 hl (k := 1) rfl (rfl) (by decide) rfl (fun ls hl => ?_)
            refine lv_iload_n hx hb dJ6_numberOfTrailingZeros_70 rfl (lv_at hl 1 rfl) ?_
            refine lv_iconst (v := 2) hx hb dJ6_numberOfTrailingZeros_71 (by decide) ?_
            refine lv_iushr hx hb dJ6_numberOfTrailingZeros_72 rfl ?_
            refine lv_istore_n (lv' := [(0, .int (((((nt0 p0).toUInt32 >>> ((16 : Int32).toUInt32 &&& Int32.toUInt32 31)).toInt32).toUInt32 >>> ((2 : Int32).toUInt32 &&& Int32.toUInt32 31)).toInt32)), (1, .int ((1 + 16) + 2))]) hx hb dJ6_numberOfTrailingZeros_73 rfl hl (by decide) rfl (fun ls hl => ?_)
            refine lv_iload_n hx hb dJ6_numberOfTrailingZeros_74 rfl (lv_at hl 1 rfl) ?_
            refine lv_iload_n hx hb dJ6_numberOfTrailingZeros_75 rfl (lv_at hl 0 rfl) ?_
            refine lv_iconst (v := 1) hx hb dJ6_numberOfTrailingZeros_76 (by decide) ?_
            refine lv_iushr hx hb dJ6_numberOfTrailingZeros_77 rfl ?_
            refine lv_iadd hx hb dJ6_numberOfTrailingZeros_78 ?_
            exact W.iret hx hb hr (fun t ht hW => ⟨_, rfl, by unfold fJ6_numberOfTrailingZeros gJ6_numberOfTrailingZeros; rw [if_pos c1, if_neg c2, if_pos c10, if_pos c11, if_neg c12], ht⟩) (fun q h => absurd h List.not_mem_nil) dJ6_numberOfTrailingZeros_79
        · refine lv_iinc (v := (1 + 16) + 4) (lv' := [(1, .int ((1 + 16) + 4)), (0, .int (((nt0 p0).toUInt32 >>> ((16 : Int32).toUInt32 &&& Int32.toUInt32 31)).toInt32))]) hx hb dJ6_numberOfTrailingZeros_55 hl (k := 1) rfl (rfl) (by decide) rfl (fun ls hl => ?_)
          refine lv_iload_n hx hb dJ6_numberOfTrailingZeros_58 rfl (lv_at hl 1 rfl) ?_
          refine lv_iconst (v := 4) hx hb dJ6_numberOfTrailingZeros_59 (by decide) ?_
          refine lv_iushr hx hb dJ6_numberOfTrailingZeros_60 rfl ?_
          refine lv_istore_n (lv' := [(0, .int (((((nt0 p0).toUInt32 >>> ((16 : Int32).toUInt32 &&& Int32.toUInt32 31)).toInt32).toUInt32 >>> ((4 : Int32).toUInt32 &&& Int32.toUInt32 31)).toInt32)), (1, .int ((1 + 16) + 4))]) hx hb dJ6_numberOfTrailingZeros_61 rfl hl (by decide) rfl (fun ls hl => ?_)
          refine lv_iload_n hx hb dJ6_numberOfTrailingZeros_62 rfl (lv_at hl 0 rfl) ?_
          refine lv_iconst (v := 4) hx hb dJ6_numberOfTrailingZeros_63 (by decide) ?_
          refine lv_icmp_le (tgt := 74) hx hb dJ6_numberOfTrailingZeros_64 (by decide) (fun c13 => ?_) (fun c13 => ?_)
          · refine lv_iload_n hx hb dJ6_numberOfTrailingZeros_74 rfl (lv_at hl 1 rfl) ?_
            refine lv_iload_n hx hb dJ6_numberOfTrailingZeros_75 rfl (lv_at hl 0 rfl) ?_
            refine lv_iconst (v := 1) hx hb dJ6_numberOfTrailingZeros_76 (by decide) ?_
            refine lv_iushr hx hb dJ6_numberOfTrailingZeros_77 rfl ?_
            refine lv_iadd hx hb dJ6_numberOfTrailingZeros_78 ?_
            exact W.iret hx hb hr (fun t ht hW => ⟨_, rfl, by unfold fJ6_numberOfTrailingZeros gJ6_numberOfTrailingZeros; rw [if_pos c1, if_neg c2, if_pos c10, if_neg c11, if_pos c13], ht⟩) (fun q h => absurd h List.not_mem_nil) dJ6_numberOfTrailingZeros_79
          · refine lv_iinc (v := ((1 + 16) + 4) + 2) (lv' := [(1, .int (((1 + 16) + 4) + 2)), (0, .int (((((nt0 p0).toUInt32 >>> ((16 : Int32).toUInt32 &&& Int32.toUInt32 31)).toInt32).toUInt32 >>> ((4 : Int32).toUInt32 &&& Int32.toUInt32 31)).toInt32))]) hx hb dJ6_numberOfTrailingZeros_67 hl (k := 1) rfl (rfl) (by decide) rfl (fun ls hl => ?_)
            refine lv_iload_n hx hb dJ6_numberOfTrailingZeros_70 rfl (lv_at hl 1 rfl) ?_
            refine lv_iconst (v := 2) hx hb dJ6_numberOfTrailingZeros_71 (by decide) ?_
            refine lv_iushr hx hb dJ6_numberOfTrailingZeros_72 rfl ?_
            refine lv_istore_n (lv' := [(0, .int (((((((nt0 p0).toUInt32 >>> ((16 : Int32).toUInt32 &&& Int32.toUInt32 31)).toInt32).toUInt32 >>> ((4 : Int32).toUInt32 &&& Int32.toUInt32 31)).toInt32).toUInt32 >>> ((2 : Int32).toUInt32 &&& Int32.toUInt32 31)).toInt32)), (1, .int (((1 + 16) + 4) + 2))]) hx hb dJ6_numberOfTrailingZeros_73 rfl hl (by decide) rfl (fun ls hl => ?_)
            refine lv_iload_n hx hb dJ6_numberOfTrailingZeros_74 rfl (lv_at hl 1 rfl) ?_
            refine lv_iload_n hx hb dJ6_numberOfTrailingZeros_75 rfl (lv_at hl 0 rfl) ?_
            refine lv_iconst (v := 1) hx hb dJ6_numberOfTrailingZeros_76 (by decide) ?_
            refine lv_iushr hx hb dJ6_numberOfTrailingZeros_77 rfl ?_
            refine lv_iadd hx hb dJ6_numberOfTrailingZeros_78 ?_
            exact W.iret hx hb hr (fun t ht hW => ⟨_, rfl, by unfold fJ6_numberOfTrailingZeros gJ6_numberOfTrailingZeros; rw [if_pos c1, if_neg c2, if_pos c10, if_neg c11, if_neg c13], ht⟩) (fun q h => absurd h List.not_mem_nil) dJ6_numberOfTrailingZeros_79
      · refine lv_iinc (v := (1 + 16) + 8) (lv' := [(1, .int ((1 + 16) + 8)), (0, .int (((nt0 p0).toUInt32 >>> ((16 : Int32).toUInt32 &&& Int32.toUInt32 31)).toInt32))]) hx hb dJ6_numberOfTrailingZeros_41 hl (k := 1) rfl (rfl) (by decide) rfl (fun ls hl => ?_)
        refine lv_iload_n hx hb dJ6_numberOfTrailingZeros_44 rfl (lv_at hl 1 rfl) ?_
        refine lv_bipush (v := 8) hx hb dJ6_numberOfTrailingZeros_45 (by decide) ?_
        refine lv_iushr hx hb dJ6_numberOfTrailingZeros_47 rfl ?_
        refine lv_istore_n (lv' := [(0, .int (((((nt0 p0).toUInt32 >>> ((16 : Int32).toUInt32 &&& Int32.toUInt32 31)).toInt32).toUInt32 >>> ((8 : Int32).toUInt32 &&& Int32.toUInt32 31)).toInt32)), (1, .int ((1 + 16) + 8))]) hx hb dJ6_numberOfTrailingZeros_48 rfl hl (by decide) rfl (fun ls hl => ?_)
        refine lv_iload_n hx hb dJ6_numberOfTrailingZeros_49 rfl (lv_at hl 0 rfl) ?_
        refine lv_bipush (v := 16) hx hb dJ6_numberOfTrailingZeros_50 (by decide) ?_
        refine lv_icmp_le (tgt := 62) hx hb dJ6_numberOfTrailingZeros_52 (by decide) (fun c14 => ?_) (fun c14 => ?_)
        · refine lv_iload_n hx hb dJ6_numberOfTrailingZeros_62 rfl (lv_at hl 0 rfl) ?_
          refine lv_iconst (v := 4) hx hb dJ6_numberOfTrailingZeros_63 (by decide) ?_
          refine lv_icmp_le (tgt := 74) hx hb dJ6_numberOfTrailingZeros_64 (by decide) (fun c15 => ?_) (fun c15 => ?_)
          · refine lv_iload_n hx hb dJ6_numberOfTrailingZeros_74 rfl (lv_at hl 1 rfl) ?_
            refine lv_iload_n hx hb dJ6_numberOfTrailingZeros_75 rfl (lv_at hl 0 rfl) ?_
            refine lv_iconst (v := 1) hx hb dJ6_numberOfTrailingZeros_76 (by decide) ?_
            refine lv_iushr hx hb dJ6_numberOfTrailingZeros_77 rfl ?_
            refine lv_iadd hx hb dJ6_numberOfTrailingZeros_78 ?_
            exact W.iret hx hb hr (fun t ht hW => ⟨_, rfl, by unfold fJ6_numberOfTrailingZeros gJ6_numberOfTrailingZeros; rw [if_pos c1, if_neg c2, if_neg c10, if_pos c14, if_pos c15], ht⟩) (fun q h => absurd h List.not_mem_nil) dJ6_numberOfTrailingZeros_79
          · refine lv_iinc (v := ((1 + 16) + 8) + 2) (lv' := [(1, .int (((1 + 16) + 8) + 2)), (0, .int (((((nt0 p0).toUInt32 >>> ((16 : Int32).toUInt32 &&& Int32.toUInt32 31)).toInt32).toUInt32 >>> ((8 : Int32).toUInt32 &&& Int32.toUInt32 31)).toInt32))]) hx hb dJ6_numberOfTrailingZeros_67 hl (k := 1) rfl (rfl) (by decide) rfl (fun ls hl => ?_)
            refine lv_iload_n hx hb dJ6_numberOfTrailingZeros_70 rfl (lv_at hl 1 rfl) ?_
            refine lv_iconst (v := 2) hx hb dJ6_numberOfTrailingZeros_71 (by decide) ?_
            refine lv_iushr hx hb dJ6_numberOfTrailingZeros_72 rfl ?_
            refine lv_istore_n (lv' := [(0, .int (((((((nt0 p0).toUInt32 >>> ((16 : Int32).toUInt32 &&& Int32.toUInt32 31)).toInt32).toUInt32 >>> ((8 : Int32).toUInt32 &&& Int32.toUInt32 31)).toInt32).toUInt32 >>> ((2 : Int32).toUInt32 &&& Int32.toUInt32 31)).toInt32)), (1, .int (((1 + 16) + 8) + 2))]) hx hb dJ6_numberOfTrailingZeros_73 rfl hl (by decide) rfl (fun ls hl => ?_)
            refine lv_iload_n hx hb dJ6_numberOfTrailingZeros_74 rfl (lv_at hl 1 rfl) ?_
            refine lv_iload_n hx hb dJ6_numberOfTrailingZeros_75 rfl (lv_at hl 0 rfl) ?_
            refine lv_iconst (v := 1) hx hb dJ6_numberOfTrailingZeros_76 (by decide) ?_
            refine lv_iushr hx hb dJ6_numberOfTrailingZeros_77 rfl ?_
            refine lv_iadd hx hb dJ6_numberOfTrailingZeros_78 ?_
            exact W.iret hx hb hr (fun t ht hW => ⟨_, rfl, by unfold fJ6_numberOfTrailingZeros gJ6_numberOfTrailingZeros; rw [if_pos c1, if_neg c2, if_neg c10, if_pos c14, if_neg c15], ht⟩) (fun q h => absurd h List.not_mem_nil) dJ6_numberOfTrailingZeros_79
        · refine lv_iinc (v := ((1 + 16) + 8) + 4) (lv' := [(1, .int (((1 + 16) + 8) + 4)), (0, .int (((((nt0 p0).toUInt32 >>> ((16 : Int32).toUInt32 &&& Int32.toUInt32 31)).toInt32).toUInt32 >>> ((8 : Int32).toUInt32 &&& Int32.toUInt32 31)).toInt32))]) hx hb dJ6_numberOfTrailingZeros_55 hl (k := 1) rfl (rfl) (by decide) rfl (fun ls hl => ?_)
          refine lv_iload_n hx hb dJ6_numberOfTrailingZeros_58 rfl (lv_at hl 1 rfl) ?_
          refine lv_iconst (v := 4) hx hb dJ6_numberOfTrailingZeros_59 (by decide) ?_
          refine lv_iushr hx hb dJ6_numberOfTrailingZeros_60 rfl ?_
          refine lv_istore_n (lv' := [(0, .int (((((((nt0 p0).toUInt32 >>> ((16 : Int32).toUInt32 &&& Int32.toUInt32 31)).toInt32).toUInt32 >>> ((8 : Int32).toUInt32 &&& Int32.toUInt32 31)).toInt32).toUInt32 >>> ((4 : Int32).toUInt32 &&& Int32.toUInt32 31)).toInt32)), (1, .int (((1 + 16) + 8) + 4))]) hx hb dJ6_numberOfTrailingZeros_61 rfl hl (by decide) rfl (fun ls hl => ?_)
          refine lv_iload_n hx hb dJ6_numberOfTrailingZeros_62 rfl (lv_at hl 0 rfl) ?_
          refine lv_iconst (v := 4) hx hb dJ6_numberOfTrailingZeros_63 (by decide) ?_
          refine lv_icmp_le (tgt := 74) hx hb dJ6_numberOfTrailingZeros_64 (by decide) (fun c16 => ?_) (fun c16 => ?_)
          · refine lv_iload_n hx hb dJ6_numberOfTrailingZeros_74 rfl (lv_at hl 1 rfl) ?_
            refine lv_iload_n hx hb dJ6_numberOfTrailingZeros_75 rfl (lv_at hl 0 rfl) ?_
            refine lv_iconst (v := 1) hx hb dJ6_numberOfTrailingZeros_76 (by decide) ?_
            refine lv_iushr hx hb dJ6_numberOfTrailingZeros_77 rfl ?_
            refine lv_iadd hx hb dJ6_numberOfTrailingZeros_78 ?_
            exact W.iret hx hb hr (fun t ht hW => ⟨_, rfl, by unfold fJ6_numberOfTrailingZeros gJ6_numberOfTrailingZeros; rw [if_pos c1, if_neg c2, if_neg c10, if_neg c14, if_pos c16], ht⟩) (fun q h => absurd h List.not_mem_nil) dJ6_numberOfTrailingZeros_79
          · refine lv_iinc (v := (((1 + 16) + 8) + 4) + 2) (lv' := [(1, .int ((((1 + 16) + 8) + 4) + 2)), (0, .int (((((((nt0 p0).toUInt32 >>> ((16 : Int32).toUInt32 &&& Int32.toUInt32 31)).toInt32).toUInt32 >>> ((8 : Int32).toUInt32 &&& Int32.toUInt32 31)).toInt32).toUInt32 >>> ((4 : Int32).toUInt32 &&& Int32.toUInt32 31)).toInt32))]) hx hb dJ6_numberOfTrailingZeros_67 hl (k := 1) rfl (rfl) (by decide) rfl (fun ls hl => ?_)
            refine lv_iload_n hx hb dJ6_numberOfTrailingZeros_70 rfl (lv_at hl 1 rfl) ?_
            refine lv_iconst (v := 2) hx hb dJ6_numberOfTrailingZeros_71 (by decide) ?_
            refine lv_iushr hx hb dJ6_numberOfTrailingZeros_72 rfl ?_
            refine lv_istore_n (lv' := [(0, .int (((((((((nt0 p0).toUInt32 >>> ((16 : Int32).toUInt32 &&& Int32.toUInt32 31)).toInt32).toUInt32 >>> ((8 : Int32).toUInt32 &&& Int32.toUInt32 31)).toInt32).toUInt32 >>> ((4 : Int32).toUInt32 &&& Int32.toUInt32 31)).toInt32).toUInt32 >>> ((2 : Int32).toUInt32 &&& Int32.toUInt32 31)).toInt32)), (1, .int ((((1 + 16) + 8) + 4) + 2))]) hx hb dJ6_numberOfTrailingZeros_73 rfl hl (by decide) rfl (fun ls hl => ?_)
            refine lv_iload_n hx hb dJ6_numberOfTrailingZeros_74 rfl (lv_at hl 1 rfl) ?_
            refine lv_iload_n hx hb dJ6_numberOfTrailingZeros_75 rfl (lv_at hl 0 rfl) ?_
            refine lv_iconst (v := 1) hx hb dJ6_numberOfTrailingZeros_76 (by decide) ?_
            refine lv_iushr hx hb dJ6_numberOfTrailingZeros_77 rfl ?_
            refine lv_iadd hx hb dJ6_numberOfTrailingZeros_78 ?_
            exact W.iret hx hb hr (fun t ht hW => ⟨_, rfl, by unfold fJ6_numberOfTrailingZeros gJ6_numberOfTrailingZeros; rw [if_pos c1, if_neg c2, if_neg c10, if_neg c14, if_neg c16], ht⟩) (fun q h => absurd h List.not_mem_nil) dJ6_numberOfTrailingZeros_79
  · refine lv_iload_n hx hb dJ6_numberOfTrailingZeros_12 rfl (lv_at hl 0 rfl) ?_
    refine lv_bipush (v := 32) hx hb dJ6_numberOfTrailingZeros_13 (by decide) ?_
    refine lv_iand hx hb dJ6_numberOfTrailingZeros_15 ?_
    exact W.iret hx hb hr (fun t ht hW => ⟨_, rfl, by unfold fJ6_numberOfTrailingZeros gJ6_numberOfTrailingZeros; rw [if_neg c1], ht⟩) (fun q h => absurd h List.not_mem_nil) dJ6_numberOfTrailingZeros_16
def fJ7_numberOfTrailingZeros (p0 : Int64) : Int32 := if p0.toInt32 = 0 then (32 + (fJ6_numberOfTrailingZeros (((p0.toUInt64 >>> ((32 : Int32).toInt64.toUInt64 &&& Int64.toUInt64 63)).toInt64).toInt32))) else (fJ6_numberOfTrailingZeros p0.toInt32)
set_option maxHeartbeats 4000000 in
set_option maxRecDepth 100000 in
theorem c_J7_numberOfTrailingZeros (l : Launch) (p0 : Int64) : Met l yJ7_numberOfTrailingZeros wJ7_numberOfTrailingZeros ({ frames := 1, cells := 0, slots := 0, locals := 21 }) (fun a _ => a = ([.long p0] : List Value).toArray) (vp_Si (fun r => r = fJ7_numberOfTrailingZeros p0)) 0 0 (fun _ => False) := by
  refine Met.ofW (cc := cJ7_numberOfTrailingZeros) (maxL := 3) (ret := (some .int)) (by decide) rfl ?_
  intro p e s m args below meth c s₁ B hml hv
  obtain rfl := hv
  have hx := B.exec
  have hb := B.bytes
  have hr := B.returns
  have hts := atoms_spec (ws := wJ7_numberOfTrailingZeros) B.pre
  have hw : ∀ w ∈ tg_, w.before _ s = true := fun w h => hts w (List.mem_cons_of_mem _ h)
  have hown : s.vm.findClass RJ7 = some m.cls := findClass_of_methodNamed B.named
  have hlocks := B.notSynchronized
  have hl := lv_entry ([.long p0]) (n := 3) (Nat.le_of_ble_eq_true rfl)
  rw [lg_entry_eq]
  generalize (lg_sl ([.long p0]) ++ List.replicate (3 - (lg_sl ([.long p0])).length) Slot.unset).toArray = ls at hl ⊢
  have hl : lv_has ls 3 [(0, .long p0)] := hl
  refine lv_lload_n hx hb dJ7_numberOfTrailingZeros_0 rfl (lv_at hl 0 rfl) ?_
  refine lv_l2i hx hb dJ7_numberOfTrailingZeros_1 rfl ?_
  refine lv_istore_n (lv' := [(2, .int p0.toInt32), (0, .long p0)]) hx hb dJ7_numberOfTrailingZeros_2 rfl hl (by decide) rfl (fun ls hl => ?_)
  refine lv_iload_n hx hb dJ7_numberOfTrailingZeros_3 rfl (lv_at hl 0 rfl) ?_
  refine lv_if_ne (tgt := 21) hx hb dJ7_numberOfTrailingZeros_4 (by decide) (fun c1 => ?_) (fun c1 => ?_)
  · refine lv_iload_n hx hb dJ7_numberOfTrailingZeros_21 rfl (lv_at hl 0 rfl) ?_
    refine vp_callSi (W.runS (As := [.int p0.toInt32]) (rest := []) ⟨hx, hb, hml, hown, hts⟩ (c_J6_numberOfTrailingZeros l p0.toInt32) (va_cwS 1 hts (gi_S hbc tw_112 tw_113 tw_6 tw_114) rfl rfl rfl (by decide +kernel) ⟨Nat.le_of_ble_eq_true rfl, Nat.le_of_ble_eq_true rfl⟩) preEq rfl rfl hl.1 rfl (lv_room (Nat.le_of_ble_eq_true rfl)) dJ7_numberOfTrailingZeros_22 ⟨Nat.le_of_ble_eq_true rfl, Nat.le_of_ble_eq_true rfl⟩) (fun r hq => ?_)
    subst hq
    exact W.iret hx hb hr (fun t ht hW => ⟨_, rfl, by unfold fJ7_numberOfTrailingZeros; rw [if_neg c1], ht⟩) (fun q h => absurd h List.not_mem_nil) dJ7_numberOfTrailingZeros_25
  · refine lv_bipush (v := 32) hx hb dJ7_numberOfTrailingZeros_7 (by decide) ?_
    refine lv_lload_n hx hb dJ7_numberOfTrailingZeros_9 rfl (lv_at hl 1 rfl) ?_
    refine lv_bipush (v := 32) hx hb dJ7_numberOfTrailingZeros_10 (by decide) ?_
    refine lv_lushr hx hb dJ7_numberOfTrailingZeros_12 rfl ?_
    refine lv_l2i hx hb dJ7_numberOfTrailingZeros_13 rfl ?_
    refine vp_callSi (W.runS (As := [.int (((p0.toUInt64 >>> ((32 : Int32).toInt64.toUInt64 &&& Int64.toUInt64 63)).toInt64).toInt32)]) (rest := [.int 32]) ⟨hx, hb, hml, hown, hts⟩ (c_J6_numberOfTrailingZeros l (((p0.toUInt64 >>> ((32 : Int32).toInt64.toUInt64 &&& Int64.toUInt64 63)).toInt64).toInt32)) (va_cwS 1 hts (gi_S hbc tw_112 tw_113 tw_6 tw_114) rfl rfl rfl (by decide +kernel) ⟨Nat.le_of_ble_eq_true rfl, Nat.le_of_ble_eq_true rfl⟩) preEq rfl rfl hl.1 rfl (lv_room (Nat.le_of_ble_eq_true rfl)) dJ7_numberOfTrailingZeros_14 ⟨Nat.le_of_ble_eq_true rfl, Nat.le_of_ble_eq_true rfl⟩) (fun r hq => ?_)
    subst hq
    refine lv_iadd hx hb dJ7_numberOfTrailingZeros_17 ?_
    refine lv_goto (tgt := 25) hx hb dJ7_numberOfTrailingZeros_18 (by decide) ?_
    exact W.iret hx hb hr (fun t ht hW => ⟨_, rfl, by unfold fJ7_numberOfTrailingZeros; rw [if_pos c1], ht⟩) (fun q h => absurd h List.not_mem_nil) dJ7_numberOfTrailingZeros_25
def nl_4 (m i : Int32) : Int32 := if i < 4 then m - (i.toUInt32 >>> ((1 : Int32).toUInt32 &&& Int32.toUInt32 31)).toInt32 else (m + (-2)) - ((i.toUInt32 >>> ((2 : Int32).toUInt32 &&& Int32.toUInt32 31)).toInt32.toUInt32 >>> ((1 : Int32).toUInt32 &&& Int32.toUInt32 31)).toInt32
def nl_16 (m i : Int32) : Int32 := if i < 16 then nl_4 m i else nl_4 (m + (-4)) (i.toUInt32 >>> ((4 : Int32).toUInt32 &&& Int32.toUInt32 31)).toInt32
def nl_256 (m i : Int32) : Int32 := if i < 256 then nl_16 m i else nl_16 (m + (-8)) (i.toUInt32 >>> ((8 : Int32).toUInt32 &&& Int32.toUInt32 31)).toInt32
def nl_65536 (m i : Int32) : Int32 := if i < 65536 then nl_256 m i else nl_256 (m + (-16)) (i.toUInt32 >>> ((16 : Int32).toUInt32 &&& Int32.toUInt32 31)).toInt32
def fJ6_numberOfLeadingZeros (p0 : Int32) : Int32 := if 0 < p0 then nl_65536 31 p0 else if p0 = 0 then 32 else 0
set_option maxHeartbeats 4000000 in
set_option maxRecDepth 100000 in
theorem c_J6_numberOfLeadingZeros (l : Launch) (p0 : Int32) : Met l yJ6_numberOfLeadingZeros wJ6_numberOfLeadingZeros ({ frames := 0, cells := 0, slots := 0, locals := 0 }) (fun a _ => a = ([.int p0] : List Value).toArray) (vp_Si (fun r => r = fJ6_numberOfLeadingZeros p0)) 0 0 (fun _ => False) := by
  refine Met.ofW (cc := cJ6_numberOfLeadingZeros) (maxL := 2) (ret := (some .int)) (by decide) rfl ?_
  intro p e s m args below meth c s₁ B hml hv
  obtain rfl := hv
  have hx := B.exec
  have hb := B.bytes
  have hr := B.returns
  have hts := atoms_spec (ws := wJ6_numberOfLeadingZeros) B.pre
  have hw : ∀ w ∈ tg_, w.before _ s = true := fun w h => hts w (List.mem_cons_of_mem _ h)
  have hown : s.vm.findClass RJ6 = some m.cls := findClass_of_methodNamed B.named
  have hlocks := B.notSynchronized
  have hl := lv_entry ([.int p0]) (n := 2) (Nat.le_of_ble_eq_true rfl)
  rw [lg_entry_eq]
  generalize (lg_sl ([.int p0]) ++ List.replicate (2 - (lg_sl ([.int p0])).length) Slot.unset).toArray = ls at hl ⊢
  have hl : lv_has ls 2 [(0, .int p0)] := hl
  refine lv_iload_n hx hb dJ6_numberOfLeadingZeros_0 rfl (lv_at hl 0 rfl) ?_
  refine lv_if_gt (tgt := 15) hx hb dJ6_numberOfLeadingZeros_1 (by decide) (fun c1 => ?_) (fun c1 => ?_)
  · refine lv_bipush (v := 31) hx hb dJ6_numberOfLeadingZeros_15 (by decide) ?_
    refine lv_istore_n (lv' := [(1, .int 31), (0, .int p0)]) hx hb dJ6_numberOfLeadingZeros_17 rfl hl (by decide) rfl (fun ls hl => ?_)
    refine lv_iload_n hx hb dJ6_numberOfLeadingZeros_18 rfl (lv_at hl 1 rfl) ?_
    refine lv_ldcw (v := 65536) hx hb hown (hw _ tw_115) dJ6_numberOfLeadingZeros_19 ?_
    refine lv_icmp_lt (tgt := 33) hx hb dJ6_numberOfLeadingZeros_22 (by decide) (fun c2 => ?_) (fun c2 => ?_)
    · refine lv_iload_n hx hb dJ6_numberOfLeadingZeros_33 rfl (lv_at hl 1 rfl) ?_
      refine lv_sipush (v := 256) hx hb dJ6_numberOfLeadingZeros_34 (by decide) ?_
      refine lv_icmp_lt (tgt := 48) hx hb dJ6_numberOfLeadingZeros_37 (by decide) (fun c3 => ?_) (fun c3 => ?_)
      · refine lv_iload_n hx hb dJ6_numberOfLeadingZeros_48 rfl (lv_at hl 1 rfl) ?_
        refine lv_bipush (v := 16) hx hb dJ6_numberOfLeadingZeros_49 (by decide) ?_
        refine lv_icmp_lt (tgt := 61) hx hb dJ6_numberOfLeadingZeros_51 (by decide) (fun c4 => ?_) (fun c4 => ?_)
        · refine lv_iload_n hx hb dJ6_numberOfLeadingZeros_61 rfl (lv_at hl 1 rfl) ?_
          refine lv_iconst (v := 4) hx hb dJ6_numberOfLeadingZeros_62 (by decide) ?_
          refine lv_icmp_lt (tgt := 73) hx hb dJ6_numberOfLeadingZeros_63 (by decide) (fun c5 => ?_) (fun c5 => ?_)
          · refine lv_iload_n hx hb dJ6_numberOfLeadingZeros_73 rfl (lv_at hl 0 rfl) ?_
            refine lv_iload_n hx hb dJ6_numberOfLeadingZeros_74 rfl (lv_at hl 1 rfl) ?_
            refine lv_iconst (v := 1) hx hb dJ6_numberOfLeadingZeros_75 (by decide) ?_
            refine lv_iushr hx hb dJ6_numberOfLeadingZeros_76 rfl ?_
            refine lv_isub hx hb dJ6_numberOfLeadingZeros_77 ?_
            exact W.iret hx hb hr (fun t ht hW => ⟨_, rfl, by unfold fJ6_numberOfLeadingZeros nl_65536 nl_256 nl_16 nl_4; rw [if_pos c1, if_pos c2, if_pos c3, if_pos c4, if_pos c5], ht⟩) (fun q h => absurd h List.not_mem_nil) dJ6_numberOfLeadingZeros_78
          · refine lv_iinc (v := 31 + (-2)) (lv' := [(1, .int (31 + (-2))), (0, .int p0)]) hx hb dJ6_numberOfLeadingZeros_66 hl (k := 0) rfl (rfl) (by decide) rfl (fun ls hl => ?_)
            refine lv_iload_n hx hb dJ6_numberOfLeadingZeros_69 rfl (lv_at hl 1 rfl) ?_
            refine lv_iconst (v := 2) hx hb dJ6_numberOfLeadingZeros_70 (by decide) ?_
            refine lv_iushr hx hb dJ6_numberOfLeadingZeros_71 rfl ?_
            refine lv_istore_n (lv' := [(0, .int ((p0.toUInt32 >>> ((2 : Int32).toUInt32 &&& Int32.toUInt32 31)).toInt32)), (1, .int (31 + (-2)))]) hx hb dJ6_numberOfLeadingZeros_72 rfl hl (by decide) rfl (fun ls hl => ?_)
            refine lv_iload_n hx hb dJ6_numberOfLeadingZeros_73 rfl (lv_at hl 1 rfl) ?_
            refine lv_iload_n hx hb dJ6_numberOfLeadingZeros_74 rfl (lv_at hl 0 rfl) ?_
            refine lv_iconst (v := 1) hx hb dJ6_numberOfLeadingZeros_75 (by decide) ?_
            refine lv_iushr hx hb dJ6_numberOfLeadingZeros_76 rfl ?_
            refine lv_isub hx hb dJ6_numberOfLeadingZeros_77 ?_
            exact W.iret hx hb hr (fun t ht hW => ⟨_, rfl, by unfold fJ6_numberOfLeadingZeros nl_65536 nl_256 nl_16 nl_4; rw [if_pos c1, if_pos c2, if_pos c3, if_pos c4, if_neg c5], ht⟩) (fun q h => absurd h List.not_mem_nil) dJ6_numberOfLeadingZeros_78
        · refine lv_iinc (v := 31 + (-4)) (lv' := [(1, .int (31 + (-4))), (0, .int p0)]) hx hb dJ6_numberOfLeadingZeros_54 hl (k := 0) rfl (rfl) (by decide) rfl (fun ls hl => ?_)
          refine lv_iload_n hx hb dJ6_numberOfLeadingZeros_57 rfl (lv_at hl 1 rfl) ?_
          refine lv_iconst (v := 4) hx hb dJ6_numberOfLeadingZeros_58 (by decide) ?_
          refine lv_iushr hx hb dJ6_numberOfLeadingZeros_59 rfl ?_
          refine lv_istore_n (lv' := [(0, .int ((p0.toUInt32 >>> ((4 : Int32).toUInt32 &&& Int32.toUInt32 31)).toInt32)), (1, .int (31 + (-4)))]) hx hb dJ6_numberOfLeadingZeros_60 rfl hl (by decide) rfl (fun ls hl => ?_)
          refine lv_iload_n hx hb dJ6_numberOfLeadingZeros_61 rfl (lv_at hl 0 rfl) ?_
          refine lv_iconst (v := 4) hx hb dJ6_numberOfLeadingZeros_62 (by decide) ?_
          refine lv_icmp_lt (tgt := 73) hx hb dJ6_numberOfLeadingZeros_63 (by decide) (fun c6 => ?_) (fun c6 => ?_)
          · refine lv_iload_n hx hb dJ6_numberOfLeadingZeros_73 rfl (lv_at hl 1 rfl) ?_
            refine lv_iload_n hx hb dJ6_numberOfLeadingZeros_74 rfl (lv_at hl 0 rfl) ?_
            refine lv_iconst (v := 1) hx hb dJ6_numberOfLeadingZeros_75 (by decide) ?_
            refine lv_iushr hx hb dJ6_numberOfLeadingZeros_76 rfl ?_
            refine lv_isub hx hb dJ6_numberOfLeadingZeros_77 ?_
            exact W.iret hx hb hr (fun t ht hW => ⟨_, rfl, by unfold fJ6_numberOfLeadingZeros nl_65536 nl_256 nl_16 nl_4; rw [if_pos c1, if_pos c2, if_pos c3, if_neg c4, if_pos c6], ht⟩) (fun q h => absurd h List.not_mem_nil) dJ6_numberOfLeadingZeros_78
          · refine lv_iinc (v := (31 + (-4)) + (-2)) (lv' := [(1, .int ((31 + (-4)) + (-2))), (0, .int ((p0.toUInt32 >>> ((4 : Int32).toUInt32 &&& Int32.toUInt32 31)).toInt32))]) hx hb dJ6_numberOfLeadingZeros_66 hl (k := 1) rfl (rfl) (by decide) rfl (fun ls hl => ?_)
            refine lv_iload_n hx hb dJ6_numberOfLeadingZeros_69 rfl (lv_at hl 1 rfl) ?_
            refine lv_iconst (v := 2) hx hb dJ6_numberOfLeadingZeros_70 (by decide) ?_
            refine lv_iushr hx hb dJ6_numberOfLeadingZeros_71 rfl ?_
            refine lv_istore_n (lv' := [(0, .int ((((p0.toUInt32 >>> ((4 : Int32).toUInt32 &&& Int32.toUInt32 31)).toInt32).toUInt32 >>> ((2 : Int32).toUInt32 &&& Int32.toUInt32 31)).toInt32)), (1, .int ((31 + (-4)) + (-2)))]) hx hb dJ6_numberOfLeadingZeros_72 rfl hl (by decide) rfl (fun ls hl => ?_)
            refine lv_iload_n hx hb dJ6_numberOfLeadingZeros_73 rfl (lv_at hl 1 rfl) ?_
            refine lv_iload_n hx hb dJ6_numberOfLeadingZeros_74 rfl (lv_at hl 0 rfl) ?_
            refine lv_iconst (v := 1) hx hb dJ6_numberOfLeadingZeros_75 (by decide) ?_
            refine lv_iushr hx hb dJ6_numberOfLeadingZeros_76 rfl ?_
            refine lv_isub hx hb dJ6_numberOfLeadingZeros_77 ?_
            exact W.iret hx hb hr (fun t ht hW => ⟨_, rfl, by unfold fJ6_numberOfLeadingZeros nl_65536 nl_256 nl_16 nl_4; rw [if_pos c1, if_pos c2, if_pos c3, if_neg c4, if_neg c6], ht⟩) (fun q h => absurd h List.not_mem_nil) dJ6_numberOfLeadingZeros_78
      · refine lv_iinc (v := 31 + (-8)) (lv' := [(1, .int (31 + (-8))), (0, .int p0)]) hx hb dJ6_numberOfLeadingZeros_40 hl (k := 0) rfl (rfl) (by decide) rfl (fun ls hl => ?_)
        refine lv_iload_n hx hb dJ6_numberOfLeadingZeros_43 rfl (lv_at hl 1 rfl) ?_
        refine lv_bipush (v := 8) hx hb dJ6_numberOfLeadingZeros_44 (by decide) ?_
        refine lv_iushr hx hb dJ6_numberOfLeadingZeros_46 rfl ?_
        refine lv_istore_n (lv' := [(0, .int ((p0.toUInt32 >>> ((8 : Int32).toUInt32 &&& Int32.toUInt32 31)).toInt32)), (1, .int (31 + (-8)))]) hx hb dJ6_numberOfLeadingZeros_47 rfl hl (by decide) rfl (fun ls hl => ?_)
        refine lv_iload_n hx hb dJ6_numberOfLeadingZeros_48 rfl (lv_at hl 0 rfl) ?_
        refine lv_bipush (v := 16) hx hb dJ6_numberOfLeadingZeros_49 (by decide) ?_
        refine lv_icmp_lt (tgt := 61) hx hb dJ6_numberOfLeadingZeros_51 (by decide) (fun c7 => ?_) (fun c7 => ?_)
        · refine lv_iload_n hx hb dJ6_numberOfLeadingZeros_61 rfl (lv_at hl 0 rfl) ?_
          refine lv_iconst (v := 4) hx hb dJ6_numberOfLeadingZeros_62 (by decide) ?_
          refine lv_icmp_lt (tgt := 73) hx hb dJ6_numberOfLeadingZeros_63 (by decide) (fun c8 => ?_) (fun c8 => ?_)
          · refine lv_iload_n hx hb dJ6_numberOfLeadingZeros_73 rfl (lv_at hl 1 rfl) ?_
            refine lv_iload_n hx hb dJ6_numberOfLeadingZeros_74 rfl (lv_at hl 0 rfl) ?_
            refine lv_iconst (v := 1) hx hb dJ6_numberOfLeadingZeros_75 (by decide) ?_
            refine lv_iushr hx hb dJ6_numberOfLeadingZeros_76 rfl ?_
            refine lv_isub hx hb dJ6_numberOfLeadingZeros_77 ?_
            exact W.iret hx hb hr (fun t ht hW => ⟨_, rfl, by unfold fJ6_numberOfLeadingZeros nl_65536 nl_256 nl_16 nl_4; rw [if_pos c1, if_pos c2, if_neg c3, if_pos c7, if_pos c8], ht⟩) (fun q h => absurd h List.not_mem_nil) dJ6_numberOfLeadingZeros_78
          · refine lv_iinc (v := (31 + (-8)) + (-2)) (lv' := [(1, .int ((31 + (-8)) + (-2))), (0, .int ((p0.toUInt32 >>> ((8 : Int32).toUInt32 &&& Int32.toUInt32 31)).toInt32))]) hx hb dJ6_numberOfLeadingZeros_66 hl (k := 1) rfl (rfl) (by decide) rfl (fun ls hl => ?_)
            refine lv_iload_n hx hb dJ6_numberOfLeadingZeros_69 rfl (lv_at hl 1 rfl) ?_
            refine lv_iconst (v := 2) hx hb dJ6_numberOfLeadingZeros_70 (by decide) ?_
            refine lv_iushr hx hb dJ6_numberOfLeadingZeros_71 rfl ?_
            refine lv_istore_n (lv' := [(0, .int ((((p0.toUInt32 >>> ((8 : Int32).toUInt32 &&& Int32.toUInt32 31)).toInt32).toUInt32 >>> ((2 : Int32).toUInt32 &&& Int32.toUInt32 31)).toInt32)), (1, .int ((31 + (-8)) + (-2)))]) hx hb dJ6_numberOfLeadingZeros_72 rfl hl (by decide) rfl (fun ls hl => ?_)
            refine lv_iload_n hx hb dJ6_numberOfLeadingZeros_73 rfl (lv_at hl 1 rfl) ?_
            refine lv_iload_n hx hb dJ6_numberOfLeadingZeros_74 rfl (lv_at hl 0 rfl) ?_
            refine lv_iconst (v := 1) hx hb dJ6_numberOfLeadingZeros_75 (by decide) ?_
            refine lv_iushr hx hb dJ6_numberOfLeadingZeros_76 rfl ?_
            refine lv_isub hx hb dJ6_numberOfLeadingZeros_77 ?_
            exact W.iret hx hb hr (fun t ht hW => ⟨_, rfl, by unfold fJ6_numberOfLeadingZeros nl_65536 nl_256 nl_16 nl_4; rw [if_pos c1, if_pos c2, if_neg c3, if_pos c7, if_neg c8], ht⟩) (fun q h => absurd h List.not_mem_nil) dJ6_numberOfLeadingZeros_78
        · refine lv_iinc (v := (31 + (-8)) + (-4)) (lv' := [(1, .int ((31 + (-8)) + (-4))), (0, .int ((p0.toUInt32 >>> ((8 : Int32).toUInt32 &&& Int32.toUInt32 31)).toInt32))]) hx hb dJ6_numberOfLeadingZeros_54 hl (k := 1) rfl (rfl) (by decide) rfl (fun ls hl => ?_)
          refine lv_iload_n hx hb dJ6_numberOfLeadingZeros_57 rfl (lv_at hl 1 rfl) ?_
          refine lv_iconst (v := 4) hx hb dJ6_numberOfLeadingZeros_58 (by decide) ?_
          refine lv_iushr hx hb dJ6_numberOfLeadingZeros_59 rfl ?_
          refine lv_istore_n (lv' := [(0, .int ((((p0.toUInt32 >>> ((8 : Int32).toUInt32 &&& Int32.toUInt32 31)).toInt32).toUInt32 >>> ((4 : Int32).toUInt32 &&& Int32.toUInt32 31)).toInt32)), (1, .int ((31 + (-8)) + (-4)))]) hx hb dJ6_numberOfLeadingZeros_60 rfl hl (by decide) rfl (fun ls hl => ?_)
          refine lv_iload_n hx hb dJ6_numberOfLeadingZeros_61 rfl (lv_at hl 0 rfl) ?_
          refine lv_iconst (v := 4) hx hb dJ6_numberOfLeadingZeros_62 (by decide) ?_
          refine lv_icmp_lt (tgt := 73) hx hb dJ6_numberOfLeadingZeros_63 (by decide) (fun c9 => ?_) (fun c9 => ?_)
          · refine lv_iload_n hx hb dJ6_numberOfLeadingZeros_73 rfl (lv_at hl 1 rfl) ?_
            refine lv_iload_n hx hb dJ6_numberOfLeadingZeros_74 rfl (lv_at hl 0 rfl) ?_
            refine lv_iconst (v := 1) hx hb dJ6_numberOfLeadingZeros_75 (by decide) ?_
            refine lv_iushr hx hb dJ6_numberOfLeadingZeros_76 rfl ?_
            refine lv_isub hx hb dJ6_numberOfLeadingZeros_77 ?_
            exact W.iret hx hb hr (fun t ht hW => ⟨_, rfl, by unfold fJ6_numberOfLeadingZeros nl_65536 nl_256 nl_16 nl_4; rw [if_pos c1, if_pos c2, if_neg c3, if_neg c7, if_pos c9], ht⟩) (fun q h => absurd h List.not_mem_nil) dJ6_numberOfLeadingZeros_78
          · refine lv_iinc (v := ((31 + (-8)) + (-4)) + (-2)) (lv' := [(1, .int (((31 + (-8)) + (-4)) + (-2))), (0, .int ((((p0.toUInt32 >>> ((8 : Int32).toUInt32 &&& Int32.toUInt32 31)).toInt32).toUInt32 >>> ((4 : Int32).toUInt32 &&& Int32.toUInt32 31)).toInt32))]) hx hb dJ6_numberOfLeadingZeros_66 hl (k := 1) rfl (rfl) (by decide) rfl (fun ls hl => ?_)
            refine lv_iload_n hx hb dJ6_numberOfLeadingZeros_69 rfl (lv_at hl 1 rfl) ?_
            refine lv_iconst (v := 2) hx hb dJ6_numberOfLeadingZeros_70 (by decide) ?_
            refine lv_iushr hx hb dJ6_numberOfLeadingZeros_71 rfl ?_
            refine lv_istore_n (lv' := [(0, .int ((((((p0.toUInt32 >>> ((8 : Int32).toUInt32 &&& Int32.toUInt32 31)).toInt32).toUInt32 >>> ((4 : Int32).toUInt32 &&& Int32.toUInt32 31)).toInt32).toUInt32 >>> ((2 : Int32).toUInt32 &&& Int32.toUInt32 31)).toInt32)), (1, .int (((31 + (-8)) + (-4)) + (-2)))]) hx hb dJ6_numberOfLeadingZeros_72 rfl hl (by decide) rfl (fun ls hl => ?_)
            refine lv_iload_n hx hb dJ6_numberOfLeadingZeros_73 rfl (lv_at hl 1 rfl) ?_
            refine lv_iload_n hx hb dJ6_numberOfLeadingZeros_74 rfl (lv_at hl 0 rfl) ?_
            refine lv_iconst (v := 1) hx hb dJ6_numberOfLeadingZeros_75 (by decide) ?_
            refine lv_iushr hx hb dJ6_numberOfLeadingZeros_76 rfl ?_
            refine lv_isub hx hb dJ6_numberOfLeadingZeros_77 ?_
            exact W.iret hx hb hr (fun t ht hW => ⟨_, rfl, by unfold fJ6_numberOfLeadingZeros nl_65536 nl_256 nl_16 nl_4; rw [if_pos c1, if_pos c2, if_neg c3, if_neg c7, if_neg c9], ht⟩) (fun q h => absurd h List.not_mem_nil) dJ6_numberOfLeadingZeros_78
    · refine lv_iinc (v := 31 + (-16)) (lv' := [(1, .int (31 + (-16))), (0, .int p0)]) hx hb dJ6_numberOfLeadingZeros_25 hl (k := 0) rfl (rfl) (by decide) rfl (fun ls hl => ?_)
      refine lv_iload_n hx hb dJ6_numberOfLeadingZeros_28 rfl (lv_at hl 1 rfl) ?_
      refine lv_bipush (v := 16) hx hb dJ6_numberOfLeadingZeros_29 (by decide) ?_
      refine lv_iushr hx hb dJ6_numberOfLeadingZeros_31 rfl ?_
      refine lv_istore_n (lv' := [(0, .int ((p0.toUInt32 >>> ((16 : Int32).toUInt32 &&& Int32.toUInt32 31)).toInt32)), (1, .int (31 + (-16)))]) hx hb dJ6_numberOfLeadingZeros_32 rfl hl (by decide) rfl (fun ls hl => ?_)
      refine lv_iload_n hx hb dJ6_numberOfLeadingZeros_33 rfl (lv_at hl 0 rfl) ?_
      refine lv_sipush (v := 256) hx hb dJ6_numberOfLeadingZeros_34 (by decide) ?_
      refine lv_icmp_lt (tgt := 48) hx hb dJ6_numberOfLeadingZeros_37 (by decide) (fun c10 => ?_) (fun c10 => ?_)
      · refine lv_iload_n hx hb dJ6_numberOfLeadingZeros_48 rfl (lv_at hl 0 rfl) ?_
        refine lv_bipush (v := 16) hx hb dJ6_numberOfLeadingZeros_49 (by decide) ?_
        refine lv_icmp_lt (tgt := 61) hx hb dJ6_numberOfLeadingZeros_51 (by decide) (fun c11 => ?_) (fun c11 => ?_)
        · refine lv_iload_n hx hb dJ6_numberOfLeadingZeros_61 rfl (lv_at hl 0 rfl) ?_
          refine lv_iconst (v := 4) hx hb dJ6_numberOfLeadingZeros_62 (by decide) ?_
          refine lv_icmp_lt (tgt := 73) hx hb dJ6_numberOfLeadingZeros_63 (by decide) (fun c12 => ?_) (fun c12 => ?_)
          · refine lv_iload_n hx hb dJ6_numberOfLeadingZeros_73 rfl (lv_at hl 1 rfl) ?_
            refine lv_iload_n hx hb dJ6_numberOfLeadingZeros_74 rfl (lv_at hl 0 rfl) ?_
            refine lv_iconst (v := 1) hx hb dJ6_numberOfLeadingZeros_75 (by decide) ?_
            refine lv_iushr hx hb dJ6_numberOfLeadingZeros_76 rfl ?_
            refine lv_isub hx hb dJ6_numberOfLeadingZeros_77 ?_
            exact W.iret hx hb hr (fun t ht hW => ⟨_, rfl, by unfold fJ6_numberOfLeadingZeros nl_65536 nl_256 nl_16 nl_4; rw [if_pos c1, if_neg c2, if_pos c10, if_pos c11, if_pos c12], ht⟩) (fun q h => absurd h List.not_mem_nil) dJ6_numberOfLeadingZeros_78
          · refine lv_iinc (v := (31 + (-16)) + (-2)) (lv' := [(1, .int ((31 + (-16)) + (-2))), (0, .int ((p0.toUInt32 >>> ((16 : Int32).toUInt32 &&& Int32.toUInt32 31)).toInt32))]) hx hb dJ6_numberOfLeadingZeros_66 hl (k := 1) rfl (rfl) (by decide) rfl (fun ls hl => ?_)
            refine lv_iload_n hx hb dJ6_numberOfLeadingZeros_69 rfl (lv_at hl 1 rfl) ?_
            refine lv_iconst (v := 2) hx hb dJ6_numberOfLeadingZeros_70 (by decide) ?_
            refine lv_iushr hx hb dJ6_numberOfLeadingZeros_71 rfl ?_
            refine lv_istore_n (lv' := [(0, .int ((((p0.toUInt32 >>> ((16 : Int32).toUInt32 &&& Int32.toUInt32 31)).toInt32).toUInt32 >>> ((2 : Int32).toUInt32 &&& Int32.toUInt32 31)).toInt32)), (1, .int ((31 + (-16)) + (-2)))]) hx hb dJ6_numberOfLeadingZeros_72 rfl hl (by decide) rfl (fun ls hl => ?_)
            refine lv_iload_n hx hb dJ6_numberOfLeadingZeros_73 rfl (lv_at hl 1 rfl) ?_
            refine lv_iload_n hx hb dJ6_numberOfLeadingZeros_74 rfl (lv_at hl 0 rfl) ?_
            refine lv_iconst (v := 1) hx hb dJ6_numberOfLeadingZeros_75 (by decide) ?_
            refine lv_iushr hx hb dJ6_numberOfLeadingZeros_76 rfl ?_
            refine lv_isub hx hb dJ6_numberOfLeadingZeros_77 ?_
            exact W.iret hx hb hr (fun t ht hW => ⟨_, rfl, by unfold fJ6_numberOfLeadingZeros nl_65536 nl_256 nl_16 nl_4; rw [if_pos c1, if_neg c2, if_pos c10, if_pos c11, if_neg c12], ht⟩) (fun q h => absurd h List.not_mem_nil) dJ6_numberOfLeadingZeros_78
        · refine lv_iinc (v := (31 + (-16)) + (-4)) (lv' := [(1, .int ((31 + (-16)) + (-4))), (0, .int ((p0.toUInt32 >>> ((16 : Int32).toUInt32 &&& Int32.toUInt32 31)).toInt32))]) hx hb dJ6_numberOfLeadingZeros_54 hl (k := 1) rfl (rfl) (by decide) rfl (fun ls hl => ?_)
          refine lv_iload_n hx hb dJ6_numberOfLeadingZeros_57 rfl (lv_at hl 1 rfl) ?_
          refine lv_iconst (v := 4) hx hb dJ6_numberOfLeadingZeros_58 (by decide) ?_
          refine lv_iushr hx hb dJ6_numberOfLeadingZeros_59 rfl ?_
          refine lv_istore_n (lv' := [(0, .int ((((p0.toUInt32 >>> ((16 : Int32).toUInt32 &&& Int32.toUInt32 31)).toInt32).toUInt32 >>> ((4 : Int32).toUInt32 &&& Int32.toUInt32 31)).toInt32)), (1, .int ((31 + (-16)) + (-4)))]) hx hb dJ6_numberOfLeadingZeros_60 rfl hl (by decide) rfl (fun ls hl => ?_)
          refine lv_iload_n hx hb dJ6_numberOfLeadingZeros_61 rfl (lv_at hl 0 rfl) ?_
          refine lv_iconst (v := 4) hx hb dJ6_numberOfLeadingZeros_62 (by decide) ?_
          refine lv_icmp_lt (tgt := 73) hx hb dJ6_numberOfLeadingZeros_63 (by decide) (fun c13 => ?_) (fun c13 => ?_)
          · refine lv_iload_n hx hb dJ6_numberOfLeadingZeros_73 rfl (lv_at hl 1 rfl) ?_
            refine lv_iload_n hx hb dJ6_numberOfLeadingZeros_74 rfl (lv_at hl 0 rfl) ?_
            refine lv_iconst (v := 1) hx hb dJ6_numberOfLeadingZeros_75 (by decide) ?_
            refine lv_iushr hx hb dJ6_numberOfLeadingZeros_76 rfl ?_
            refine lv_isub hx hb dJ6_numberOfLeadingZeros_77 ?_
            exact W.iret hx hb hr (fun t ht hW => ⟨_, rfl, by unfold fJ6_numberOfLeadingZeros nl_65536 nl_256 nl_16 nl_4; rw [if_pos c1, if_neg c2, if_pos c10, if_neg c11, if_pos c13], ht⟩) (fun q h => absurd h List.not_mem_nil) dJ6_numberOfLeadingZeros_78
          · refine lv_iinc (v := ((31 + (-16)) + (-4)) + (-2)) (lv' := [(1, .int (((31 + (-16)) + (-4)) + (-2))), (0, .int ((((p0.toUInt32 >>> ((16 : Int32).toUInt32 &&& Int32.toUInt32 31)).toInt32).toUInt32 >>> ((4 : Int32).toUInt32 &&& Int32.toUInt32 31)).toInt32))]) hx hb dJ6_numberOfLeadingZeros_66 hl (k := 1) rfl (rfl) (by decide) rfl (fun ls hl => ?_)
            refine lv_iload_n hx hb dJ6_numberOfLeadingZeros_69 rfl (lv_at hl 1 rfl) ?_
            refine lv_iconst (v := 2) hx hb dJ6_numberOfLeadingZeros_70 (by decide) ?_
            refine lv_iushr hx hb dJ6_numberOfLeadingZeros_71 rfl ?_
            refine lv_istore_n (lv' := [(0, .int ((((((p0.toUInt32 >>> ((16 : Int32).toUInt32 &&& Int32.toUInt32 31)).toInt32).toUInt32 >>> ((4 : Int32).toUInt32 &&& Int32.toUInt32 31)).toInt32).toUInt32 >>> ((2 : Int32).toUInt32 &&& Int32.toUInt32 31)).toInt32)), (1, .int (((31 + (-16)) + (-4)) + (-2)))]) hx hb dJ6_numberOfLeadingZeros_72 rfl hl (by decide) rfl (fun ls hl => ?_)
            refine lv_iload_n hx hb dJ6_numberOfLeadingZeros_73 rfl (lv_at hl 1 rfl) ?_
            refine lv_iload_n hx hb dJ6_numberOfLeadingZeros_74 rfl (lv_at hl 0 rfl) ?_
            refine lv_iconst (v := 1) hx hb dJ6_numberOfLeadingZeros_75 (by decide) ?_
            refine lv_iushr hx hb dJ6_numberOfLeadingZeros_76 rfl ?_
            refine lv_isub hx hb dJ6_numberOfLeadingZeros_77 ?_
            exact W.iret hx hb hr (fun t ht hW => ⟨_, rfl, by unfold fJ6_numberOfLeadingZeros nl_65536 nl_256 nl_16 nl_4; rw [if_pos c1, if_neg c2, if_pos c10, if_neg c11, if_neg c13], ht⟩) (fun q h => absurd h List.not_mem_nil) dJ6_numberOfLeadingZeros_78
      · refine lv_iinc (v := (31 + (-16)) + (-8)) (lv' := [(1, .int ((31 + (-16)) + (-8))), (0, .int ((p0.toUInt32 >>> ((16 : Int32).toUInt32 &&& Int32.toUInt32 31)).toInt32))]) hx hb dJ6_numberOfLeadingZeros_40 hl (k := 1) rfl (rfl) (by decide) rfl (fun ls hl => ?_)
        refine lv_iload_n hx hb dJ6_numberOfLeadingZeros_43 rfl (lv_at hl 1 rfl) ?_
        refine lv_bipush (v := 8) hx hb dJ6_numberOfLeadingZeros_44 (by decide) ?_
        refine lv_iushr hx hb dJ6_numberOfLeadingZeros_46 rfl ?_
        refine lv_istore_n (lv' := [(0, .int ((((p0.toUInt32 >>> ((16 : Int32).toUInt32 &&& Int32.toUInt32 31)).toInt32).toUInt32 >>> ((8 : Int32).toUInt32 &&& Int32.toUInt32 31)).toInt32)), (1, .int ((31 + (-16)) + (-8)))]) hx hb dJ6_numberOfLeadingZeros_47 rfl hl (by decide) rfl (fun ls hl => ?_)
        refine lv_iload_n hx hb dJ6_numberOfLeadingZeros_48 rfl (lv_at hl 0 rfl) ?_
        refine lv_bipush (v := 16) hx hb dJ6_numberOfLeadingZeros_49 (by decide) ?_
        refine lv_icmp_lt (tgt := 61) hx hb dJ6_numberOfLeadingZeros_51 (by decide) (fun c14 => ?_) (fun c14 => ?_)
        · refine lv_iload_n hx hb dJ6_numberOfLeadingZeros_61 rfl (lv_at hl 0 rfl) ?_
          refine lv_iconst (v := 4) hx hb dJ6_numberOfLeadingZeros_62 (by decide) ?_
          refine lv_icmp_lt (tgt := 73) hx hb dJ6_numberOfLeadingZeros_63 (by decide) (fun c15 => ?_) (fun c15 => ?_)
          · refine lv_iload_n hx hb dJ6_numberOfLeadingZeros_73 rfl (lv_at hl 1 rfl) ?_
            refine lv_iload_n hx hb dJ6_numberOfLeadingZeros_74 rfl (lv_at hl 0 rfl) ?_
            refine lv_iconst (v := 1) hx hb dJ6_numberOfLeadingZeros_75 (by decide) ?_
            refine lv_iushr hx hb dJ6_numberOfLeadingZeros_76 rfl ?_
            refine lv_isub hx hb dJ6_numberOfLeadingZeros_77 ?_
            exact W.iret hx hb hr (fun t ht hW => ⟨_, rfl, by unfold fJ6_numberOfLeadingZeros nl_65536 nl_256 nl_16 nl_4; rw [if_pos c1, if_neg c2, if_neg c10, if_pos c14, if_pos c15], ht⟩) (fun q h => absurd h List.not_mem_nil) dJ6_numberOfLeadingZeros_78
          · refine lv_iinc (v := ((31 + (-16)) + (-8)) + (-2)) (lv' := [(1, .int (((31 + (-16)) + (-8)) + (-2))), (0, .int ((((p0.toUInt32 >>> ((16 : Int32).toUInt32 &&& Int32.toUInt32 31)).toInt32).toUInt32 >>> ((8 : Int32).toUInt32 &&& Int32.toUInt32 31)).toInt32))]) hx hb dJ6_numberOfLeadingZeros_66 hl (k := 1) rfl (rfl) (by decide) rfl (fun ls hl => ?_)
            refine lv_iload_n hx hb dJ6_numberOfLeadingZeros_69 rfl (lv_at hl 1 rfl) ?_
            refine lv_iconst (v := 2) hx hb dJ6_numberOfLeadingZeros_70 (by decide) ?_
            refine lv_iushr hx hb dJ6_numberOfLeadingZeros_71 rfl ?_
            refine lv_istore_n (lv' := [(0, .int ((((((p0.toUInt32 >>> ((16 : Int32).toUInt32 &&& Int32.toUInt32 31)).toInt32).toUInt32 >>> ((8 : Int32).toUInt32 &&& Int32.toUInt32 31)).toInt32).toUInt32 >>> ((2 : Int32).toUInt32 &&& Int32.toUInt32 31)).toInt32)), (1, .int (((31 + (-16)) + (-8)) + (-2)))]) hx hb dJ6_numberOfLeadingZeros_72 rfl hl (by decide) rfl (fun ls hl => ?_)
            refine lv_iload_n hx hb dJ6_numberOfLeadingZeros_73 rfl (lv_at hl 1 rfl) ?_
            refine lv_iload_n hx hb dJ6_numberOfLeadingZeros_74 rfl (lv_at hl 0 rfl) ?_
            refine lv_iconst (v := 1) hx hb dJ6_numberOfLeadingZeros_75 (by decide) ?_
            refine lv_iushr hx hb dJ6_numberOfLeadingZeros_76 rfl ?_
            refine lv_isub hx hb dJ6_numberOfLeadingZeros_77 ?_
            exact W.iret hx hb hr (fun t ht hW => ⟨_, rfl, by unfold fJ6_numberOfLeadingZeros nl_65536 nl_256 nl_16 nl_4; rw [if_pos c1, if_neg c2, if_neg c10, if_pos c14, if_neg c15], ht⟩) (fun q h => absurd h List.not_mem_nil) dJ6_numberOfLeadingZeros_78
        · refine lv_iinc (v := ((31 + (-16)) + (-8)) + (-4)) (lv' := [(1, .int (((31 + (-16)) + (-8)) + (-4))), (0, .int ((((p0.toUInt32 >>> ((16 : Int32).toUInt32 &&& Int32.toUInt32 31)).toInt32).toUInt32 >>> ((8 : Int32).toUInt32 &&& Int32.toUInt32 31)).toInt32))]) hx hb dJ6_numberOfLeadingZeros_54 hl (k := 1) rfl (rfl) (by decide) rfl (fun ls hl => ?_)
          refine lv_iload_n hx hb dJ6_numberOfLeadingZeros_57 rfl (lv_at hl 1 rfl) ?_
          refine lv_iconst (v := 4) hx hb dJ6_numberOfLeadingZeros_58 (by decide) ?_
          refine lv_iushr hx hb dJ6_numberOfLeadingZeros_59 rfl ?_
          refine lv_istore_n (lv' := [(0, .int ((((((p0.toUInt32 >>> ((16 : Int32).toUInt32 &&& Int32.toUInt32 31)).toInt32).toUInt32 >>> ((8 : Int32).toUInt32 &&& Int32.toUInt32 31)).toInt32).toUInt32 >>> ((4 : Int32).toUInt32 &&& Int32.toUInt32 31)).toInt32)), (1, .int (((31 + (-16)) + (-8)) + (-4)))]) hx hb dJ6_numberOfLeadingZeros_60 rfl hl (by decide) rfl (fun ls hl => ?_)
          refine lv_iload_n hx hb dJ6_numberOfLeadingZeros_61 rfl (lv_at hl 0 rfl) ?_
          refine lv_iconst (v := 4) hx hb dJ6_numberOfLeadingZeros_62 (by decide) ?_
          refine lv_icmp_lt (tgt := 73) hx hb dJ6_numberOfLeadingZeros_63 (by decide) (fun c16 => ?_) (fun c16 => ?_)
          · refine lv_iload_n hx hb dJ6_numberOfLeadingZeros_73 rfl (lv_at hl 1 rfl) ?_
            refine lv_iload_n hx hb dJ6_numberOfLeadingZeros_74 rfl (lv_at hl 0 rfl) ?_
            refine lv_iconst (v := 1) hx hb dJ6_numberOfLeadingZeros_75 (by decide) ?_
            refine lv_iushr hx hb dJ6_numberOfLeadingZeros_76 rfl ?_
            refine lv_isub hx hb dJ6_numberOfLeadingZeros_77 ?_
            exact W.iret hx hb hr (fun t ht hW => ⟨_, rfl, by unfold fJ6_numberOfLeadingZeros nl_65536 nl_256 nl_16 nl_4; rw [if_pos c1, if_neg c2, if_neg c10, if_neg c14, if_pos c16], ht⟩) (fun q h => absurd h List.not_mem_nil) dJ6_numberOfLeadingZeros_78
          · refine lv_iinc (v := (((31 + (-16)) + (-8)) + (-4)) + (-2)) (lv' := [(1, .int ((((31 + (-16)) + (-8)) + (-4)) + (-2))), (0, .int ((((((p0.toUInt32 >>> ((16 : Int32).toUInt32 &&& Int32.toUInt32 31)).toInt32).toUInt32 >>> ((8 : Int32).toUInt32 &&& Int32.toUInt32 31)).toInt32).toUInt32 >>> ((4 : Int32).toUInt32 &&& Int32.toUInt32 31)).toInt32))]) hx hb dJ6_numberOfLeadingZeros_66 hl (k := 1) rfl (rfl) (by decide) rfl (fun ls hl => ?_)
            refine lv_iload_n hx hb dJ6_numberOfLeadingZeros_69 rfl (lv_at hl 1 rfl) ?_
            refine lv_iconst (v := 2) hx hb dJ6_numberOfLeadingZeros_70 (by decide) ?_
            refine lv_iushr hx hb dJ6_numberOfLeadingZeros_71 rfl ?_
            refine lv_istore_n (lv' := [(0, .int ((((((((p0.toUInt32 >>> ((16 : Int32).toUInt32 &&& Int32.toUInt32 31)).toInt32).toUInt32 >>> ((8 : Int32).toUInt32 &&& Int32.toUInt32 31)).toInt32).toUInt32 >>> ((4 : Int32).toUInt32 &&& Int32.toUInt32 31)).toInt32).toUInt32 >>> ((2 : Int32).toUInt32 &&& Int32.toUInt32 31)).toInt32)), (1, .int ((((31 + (-16)) + (-8)) + (-4)) + (-2)))]) hx hb dJ6_numberOfLeadingZeros_72 rfl hl (by decide) rfl (fun ls hl => ?_)
            refine lv_iload_n hx hb dJ6_numberOfLeadingZeros_73 rfl (lv_at hl 1 rfl) ?_
            refine lv_iload_n hx hb dJ6_numberOfLeadingZeros_74 rfl (lv_at hl 0 rfl) ?_
            refine lv_iconst (v := 1) hx hb dJ6_numberOfLeadingZeros_75 (by decide) ?_
            refine lv_iushr hx hb dJ6_numberOfLeadingZeros_76 rfl ?_
            refine lv_isub hx hb dJ6_numberOfLeadingZeros_77 ?_
            exact W.iret hx hb hr (fun t ht hW => ⟨_, rfl, by unfold fJ6_numberOfLeadingZeros nl_65536 nl_256 nl_16 nl_4; rw [if_pos c1, if_neg c2, if_neg c10, if_neg c14, if_neg c16], ht⟩) (fun q h => absurd h List.not_mem_nil) dJ6_numberOfLeadingZeros_78
  · refine lv_iload_n hx hb dJ6_numberOfLeadingZeros_4 rfl (lv_at hl 0 rfl) ?_
    refine lv_if_ne (tgt := 13) hx hb dJ6_numberOfLeadingZeros_5 (by decide) (fun c17 => ?_) (fun c17 => ?_)
    · refine lv_iconst (v := 0) hx hb dJ6_numberOfLeadingZeros_13 (by decide) ?_
      exact W.iret hx hb hr (fun t ht hW => ⟨_, rfl, by unfold fJ6_numberOfLeadingZeros nl_65536 nl_256 nl_16 nl_4; rw [if_neg c1, if_neg c17], ht⟩) (fun q h => absurd h List.not_mem_nil) dJ6_numberOfLeadingZeros_14
    · refine lv_bipush (v := 32) hx hb dJ6_numberOfLeadingZeros_8 (by decide) ?_
      refine lv_goto (tgt := 14) hx hb dJ6_numberOfLeadingZeros_10 (by decide) ?_
      exact W.iret hx hb hr (fun t ht hW => ⟨_, rfl, by unfold fJ6_numberOfLeadingZeros nl_65536 nl_256 nl_16 nl_4; rw [if_neg c1, if_pos c17], ht⟩) (fun q h => absurd h List.not_mem_nil) dJ6_numberOfLeadingZeros_14
def fJ7_numberOfLeadingZeros (p0 : Int64) : Int32 := if (((p0.toUInt64 >>> ((32 : Int32).toInt64.toUInt64 &&& Int64.toUInt64 63)).toInt64).toInt32) = 0 then (32 + (fJ6_numberOfLeadingZeros p0.toInt32)) else (fJ6_numberOfLeadingZeros (((p0.toUInt64 >>> ((32 : Int32).toInt64.toUInt64 &&& Int64.toUInt64 63)).toInt64).toInt32))
set_option maxHeartbeats 4000000 in
set_option maxRecDepth 100000 in
theorem c_J7_numberOfLeadingZeros (l : Launch) (p0 : Int64) : Met l yJ7_numberOfLeadingZeros wJ7_numberOfLeadingZeros ({ frames := 1, cells := 0, slots := 0, locals := 21 }) (fun a _ => a = ([.long p0] : List Value).toArray) (vp_Si (fun r => r = fJ7_numberOfLeadingZeros p0)) 0 0 (fun _ => False) := by
  refine Met.ofW (cc := cJ7_numberOfLeadingZeros) (maxL := 3) (ret := (some .int)) (by decide) rfl ?_
  intro p e s m args below meth c s₁ B hml hv
  obtain rfl := hv
  have hx := B.exec
  have hb := B.bytes
  have hr := B.returns
  have hts := atoms_spec (ws := wJ7_numberOfLeadingZeros) B.pre
  have hw : ∀ w ∈ tg_, w.before _ s = true := fun w h => hts w (List.mem_cons_of_mem _ h)
  have hown : s.vm.findClass RJ7 = some m.cls := findClass_of_methodNamed B.named
  have hlocks := B.notSynchronized
  have hl := lv_entry ([.long p0]) (n := 3) (Nat.le_of_ble_eq_true rfl)
  rw [lg_entry_eq]
  generalize (lg_sl ([.long p0]) ++ List.replicate (3 - (lg_sl ([.long p0])).length) Slot.unset).toArray = ls at hl ⊢
  have hl : lv_has ls 3 [(0, .long p0)] := hl
  refine lv_lload_n hx hb dJ7_numberOfLeadingZeros_0 rfl (lv_at hl 0 rfl) ?_
  refine lv_bipush (v := 32) hx hb dJ7_numberOfLeadingZeros_1 (by decide) ?_
  refine lv_lushr hx hb dJ7_numberOfLeadingZeros_3 rfl ?_
  refine lv_l2i hx hb dJ7_numberOfLeadingZeros_4 rfl ?_
  refine lv_istore_n (lv' := [(2, .int (((p0.toUInt64 >>> ((32 : Int32).toInt64.toUInt64 &&& Int64.toUInt64 63)).toInt64).toInt32)), (0, .long p0)]) hx hb dJ7_numberOfLeadingZeros_5 rfl hl (by decide) rfl (fun ls hl => ?_)
  refine lv_iload_n hx hb dJ7_numberOfLeadingZeros_6 rfl (lv_at hl 0 rfl) ?_
  refine lv_if_ne (tgt := 21) hx hb dJ7_numberOfLeadingZeros_7 (by decide) (fun c1 => ?_) (fun c1 => ?_)
  · refine lv_iload_n hx hb dJ7_numberOfLeadingZeros_21 rfl (lv_at hl 0 rfl) ?_
    refine vp_callSi (W.runS (As := [.int (((p0.toUInt64 >>> ((32 : Int32).toInt64.toUInt64 &&& Int64.toUInt64 63)).toInt64).toInt32)]) (rest := []) ⟨hx, hb, hml, hown, hts⟩ (c_J6_numberOfLeadingZeros l (((p0.toUInt64 >>> ((32 : Int32).toInt64.toUInt64 &&& Int64.toUInt64 63)).toInt64).toInt32)) (va_cwS 1 hts (gi_S hbc tw_124 tw_125 tw_6 tw_126) rfl rfl rfl (by decide +kernel) ⟨Nat.le_of_ble_eq_true rfl, Nat.le_of_ble_eq_true rfl⟩) preEq rfl rfl hl.1 rfl (lv_room (Nat.le_of_ble_eq_true rfl)) dJ7_numberOfLeadingZeros_22 ⟨Nat.le_of_ble_eq_true rfl, Nat.le_of_ble_eq_true rfl⟩) (fun r hq => ?_)
    subst hq
    exact W.iret hx hb hr (fun t ht hW => ⟨_, rfl, by unfold fJ7_numberOfLeadingZeros; rw [if_neg c1], ht⟩) (fun q h => absurd h List.not_mem_nil) dJ7_numberOfLeadingZeros_25
  · refine lv_bipush (v := 32) hx hb dJ7_numberOfLeadingZeros_10 (by decide) ?_
    refine lv_lload_n hx hb dJ7_numberOfLeadingZeros_12 rfl (lv_at hl 1 rfl) ?_
    refine lv_l2i hx hb dJ7_numberOfLeadingZeros_13 rfl ?_
    refine vp_callSi (W.runS (As := [.int p0.toInt32]) (rest := [.int 32]) ⟨hx, hb, hml, hown, hts⟩ (c_J6_numberOfLeadingZeros l p0.toInt32) (va_cwS 1 hts (gi_S hbc tw_124 tw_125 tw_6 tw_126) rfl rfl rfl (by decide +kernel) ⟨Nat.le_of_ble_eq_true rfl, Nat.le_of_ble_eq_true rfl⟩) preEq rfl rfl hl.1 rfl (lv_room (Nat.le_of_ble_eq_true rfl)) dJ7_numberOfLeadingZeros_14 ⟨Nat.le_of_ble_eq_true rfl, Nat.le_of_ble_eq_true rfl⟩) (fun r hq => ?_)
    subst hq
    refine lv_iadd hx hb dJ7_numberOfLeadingZeros_17 ?_
    refine lv_goto (tgt := 25) hx hb dJ7_numberOfLeadingZeros_18 (by decide) ?_
    exact W.iret hx hb hr (fun t ht hW => ⟨_, rfl, by unfold fJ7_numberOfLeadingZeros; rw [if_pos c1], ht⟩) (fun q h => absurd h List.not_mem_nil) dJ7_numberOfLeadingZeros_25
def bc1 (x : Int64) : Int64 := x - ((x.toUInt64 >>> ((1 : Int32).toInt64.toUInt64 &&& Int64.toUInt64 63)).toInt64 &&& 6148914691236517205)
def bc2 (x : Int64) : Int64 := (x &&& 3689348814741910323) + ((x.toUInt64 >>> ((2 : Int32).toInt64.toUInt64 &&& Int64.toUInt64 63)).toInt64 &&& 3689348814741910323)
def bc3 (x : Int64) : Int64 := (x + (x.toUInt64 >>> ((4 : Int32).toInt64.toUInt64 &&& Int64.toUInt64 63)).toInt64) &&& 1085102592571150095
def bc4 (x : Int64) : Int64 := x + (x.toUInt64 >>> ((8 : Int32).toInt64.toUInt64 &&& Int64.toUInt64 63)).toInt64
def bc5 (x : Int64) : Int64 := x + (x.toUInt64 >>> ((16 : Int32).toInt64.toUInt64 &&& Int64.toUInt64 63)).toInt64
def bc6 (x : Int64) : Int64 := x + (x.toUInt64 >>> ((32 : Int32).toInt64.toUInt64 &&& Int64.toUInt64 63)).toInt64
def fJ7_bitCount (p0 : Int64) : Int32 := ((bc6 (bc5 (bc4 (bc3 (bc2 (bc1 p0)))))).toInt32) &&& 127
set_option maxHeartbeats 4000000 in
set_option maxRecDepth 100000 in
theorem c_J7_bitCount (l : Launch) (p0 : Int64) : Met l yJ7_bitCount wJ7_bitCount ({ frames := 0, cells := 0, slots := 0, locals := 0 }) (fun a _ => a = ([.long p0] : List Value).toArray) (vp_Si (fun r => r = fJ7_bitCount p0)) 0 0 (fun _ => False) := by
  refine Met.ofW (cc := cJ7_bitCount) (maxL := 2) (ret := (some .int)) (by decide) rfl ?_
  intro p e s m args below meth c s₁ B hml hv
  obtain rfl := hv
  have hx := B.exec
  have hb := B.bytes
  have hr := B.returns
  have hts := atoms_spec (ws := wJ7_bitCount) B.pre
  have hw : ∀ w ∈ tg_, w.before _ s = true := fun w h => hts w (List.mem_cons_of_mem _ h)
  have hown : s.vm.findClass RJ7 = some m.cls := findClass_of_methodNamed B.named
  have hlocks := B.notSynchronized
  have hl := lv_entry ([.long p0]) (n := 2) (Nat.le_of_ble_eq_true rfl)
  rw [lg_entry_eq]
  generalize (lg_sl ([.long p0]) ++ List.replicate (2 - (lg_sl ([.long p0])).length) Slot.unset).toArray = ls at hl ⊢
  have hl : lv_has ls 2 [(0, .long p0)] := hl
  refine lv_lload_n hx hb dJ7_bitCount_0 rfl (lv_at hl 0 rfl) ?_
  refine lv_lload_n hx hb dJ7_bitCount_1 rfl (lv_at hl 0 rfl) ?_
  refine lv_iconst (v := 1) hx hb dJ7_bitCount_2 (by decide) ?_
  refine lv_lushr hx hb dJ7_bitCount_3 rfl ?_
  refine lv_ldc2 (v := 6148914691236517205) hx hb hown (hw _ tw_94) dJ7_bitCount_4 ?_
  refine lv_land hx hb dJ7_bitCount_7 ?_
  refine lv_lsub hx hb dJ7_bitCount_8 ?_
  refine lv_lstore_n (lv' := [(0, .long (bc1 p0))]) hx hb dJ7_bitCount_9 rfl hl (by decide) rfl (fun ls hl => ?_)
  refine lv_lload_n hx hb dJ7_bitCount_10 rfl (lv_at hl 0 rfl) ?_
  refine lv_ldc2 (v := 3689348814741910323) hx hb hown (hw _ tw_95) dJ7_bitCount_11 ?_
  refine lv_land hx hb dJ7_bitCount_14 ?_
  refine lv_lload_n hx hb dJ7_bitCount_15 rfl (lv_at hl 0 rfl) ?_
  refine lv_iconst (v := 2) hx hb dJ7_bitCount_16 (by decide) ?_
  refine lv_lushr hx hb dJ7_bitCount_17 rfl ?_
  refine lv_ldc2 (v := 3689348814741910323) hx hb hown (hw _ tw_95) dJ7_bitCount_18 ?_
  refine lv_land hx hb dJ7_bitCount_21 ?_
  refine lv_ladd hx hb dJ7_bitCount_22 ?_
  refine lv_lstore_n (lv' := [(0, .long (bc2 (bc1 p0)))]) hx hb dJ7_bitCount_23 rfl hl (by decide) rfl (fun ls hl => ?_)
  refine lv_lload_n hx hb dJ7_bitCount_24 rfl (lv_at hl 0 rfl) ?_
  refine lv_lload_n hx hb dJ7_bitCount_25 rfl (lv_at hl 0 rfl) ?_
  refine lv_iconst (v := 4) hx hb dJ7_bitCount_26 (by decide) ?_
  refine lv_lushr hx hb dJ7_bitCount_27 rfl ?_
  refine lv_ladd hx hb dJ7_bitCount_28 ?_
  refine lv_ldc2 (v := 1085102592571150095) hx hb hown (hw _ tw_96) dJ7_bitCount_29 ?_
  refine lv_land hx hb dJ7_bitCount_32 ?_
  refine lv_lstore_n (lv' := [(0, .long (bc3 (bc2 (bc1 p0))))]) hx hb dJ7_bitCount_33 rfl hl (by decide) rfl (fun ls hl => ?_)
  refine lv_lload_n hx hb dJ7_bitCount_34 rfl (lv_at hl 0 rfl) ?_
  refine lv_lload_n hx hb dJ7_bitCount_35 rfl (lv_at hl 0 rfl) ?_
  refine lv_bipush (v := 8) hx hb dJ7_bitCount_36 (by decide) ?_
  refine lv_lushr hx hb dJ7_bitCount_38 rfl ?_
  refine lv_ladd hx hb dJ7_bitCount_39 ?_
  refine lv_lstore_n (lv' := [(0, .long (bc4 (bc3 (bc2 (bc1 p0)))))]) hx hb dJ7_bitCount_40 rfl hl (by decide) rfl (fun ls hl => ?_)
  refine lv_lload_n hx hb dJ7_bitCount_41 rfl (lv_at hl 0 rfl) ?_
  refine lv_lload_n hx hb dJ7_bitCount_42 rfl (lv_at hl 0 rfl) ?_
  refine lv_bipush (v := 16) hx hb dJ7_bitCount_43 (by decide) ?_
  refine lv_lushr hx hb dJ7_bitCount_45 rfl ?_
  refine lv_ladd hx hb dJ7_bitCount_46 ?_
  refine lv_lstore_n (lv' := [(0, .long (bc5 (bc4 (bc3 (bc2 (bc1 p0))))))]) hx hb dJ7_bitCount_47 rfl hl (by decide) rfl (fun ls hl => ?_)
  refine lv_lload_n hx hb dJ7_bitCount_48 rfl (lv_at hl 0 rfl) ?_
  refine lv_lload_n hx hb dJ7_bitCount_49 rfl (lv_at hl 0 rfl) ?_
  refine lv_bipush (v := 32) hx hb dJ7_bitCount_50 (by decide) ?_
  refine lv_lushr hx hb dJ7_bitCount_52 rfl ?_
  refine lv_ladd hx hb dJ7_bitCount_53 ?_
  refine lv_lstore_n (lv' := [(0, .long (bc6 (bc5 (bc4 (bc3 (bc2 (bc1 p0)))))))]) hx hb dJ7_bitCount_54 rfl hl (by decide) rfl (fun ls hl => ?_)
  refine lv_lload_n hx hb dJ7_bitCount_55 rfl (lv_at hl 0 rfl) ?_
  refine lv_l2i hx hb dJ7_bitCount_56 rfl ?_
  refine lv_bipush (v := 127) hx hb dJ7_bitCount_57 (by decide) ?_
  refine lv_iand hx hb dJ7_bitCount_59 ?_
  exact W.iret hx hb hr (fun t ht hW => ⟨_, rfl, rfl, ht⟩) (fun q h => absurd h List.not_mem_nil) dJ7_bitCount_60
end
section
/-! what the class's methods answer and do, in words of the state; bounds and loops -/
theorem vp_in_lit {x M : Int32} {n : Nat} (hM : M.toInt = n) (h0 : ¬ x < 0) (h1 : ¬ M ≤ x) : vp_in x n := by
  rw [Int32.lt_iff_toInt_lt] at h0
  rw [Int32.le_iff_toInt_le] at h1
  have h2 : (0 : Int32).toInt = 0 := rfl
  rw [vp_in_iff]
  omega
theorem i_rf (x : Int32) : x ≤ x := by
  rw [Int32.le_iff_toInt_le]
  exact Int.le_refl _
theorem lp_out {i n : Nat} {M : Int32} (hM : M = nI n) (hi : i ≤ n) (hn : n < 2 ^ 31) (c : M ≤ nI i) : i = n := by
  subst hM
  rw [nI_leI hn (by omega)] at c
  omega
theorem lp_in {i n : Nat} {M : Int32} (hM : M = nI n) (hi : i ≤ n) (c : ¬ M ≤ nI i) : i < n := by
  rcases Nat.lt_or_ge i n with h | h
  · exact h
  · have e : i = n := by omega
    subst e
    subst hM
    exact absurd (i_rf _) c
theorem tr_P {D : va_G} {A : AdB} {u v : StB} {H : Heap} (e : u = v) (h : va_P D bwCl (wB A u) H) : va_P D bwCl (wB A v) H := by
  subst e
  exact h
theorem tr_D {X : Nat → Prop} {A : AdB} {u v : StB} (e : u = v) (h : va_D X (wB A u)) : va_D X (wB A v) := by
  subst e
  exact h
theorem st_P {D : va_G} {A : AdB} {u : StB} {H : Heap} {j : Nat} {f : Nat → Int64} (hj : j < 4) (h : va_P D bwCl ((wB A u).set (8 + j) (aw_ A j, .inl (kJ_ A j, 63, .inr (.inl f)))) H) : va_P D bwCl (wB A (upM u.1 j f, u.2)) H := by
  rw [wB_set A u hj] at h
  exact h
theorem st_D {X : Nat → Prop} {A : AdB} {u : StB} {j : Nat} {f : Nat → Int64} (hj : j < 4) (h : va_D X ((wB A u).set (8 + j) (aw_ A j, .inl (kJ_ A j, 63, .inr (.inl f))))) : va_D X (wB A (upM u.1 j f, u.2)) := by
  rw [wB_set A u hj] at h
  exact h
/-- the first i words from F, the others from g -/
def fl (F g : Nat → Int64) (i : Nat) : Nat → Int64 := fun k => if k < i then F k else g k
theorem fl_0 (F g : Nat → Int64) : fl F g 0 = g := by
  funext k
  exact if_neg (by omega)
theorem fl_ge (F g : Nat → Int64) {i k : Nat} (h : i ≤ k) : fl F g i k = g k := if_neg (by omega)
theorem fl_lt (F g : Nat → Int64) {i k : Nat} (h : k < i) : fl F g i k = F k := if_pos h
theorem fl_s (F g : Nat → Int64) (i : Nat) : vp_updL (fl F g i) i (F i) = fl F g (i + 1) := by
  funext k
  by_cases h : k = i
  · subst h
    rw [pk_uLs, fl_lt _ _ (by omega)]
  · rw [pk_uLn h]
    by_cases h2 : k < i
    · rw [fl_lt _ _ h2, fl_lt _ _ (by omega)]
    · rw [fl_ge _ _ (by omega), fl_ge _ _ (by omega)]
theorem fl_u0 (F : Nat → Int64) (u : StB) (j : Nat) : u = (upM u.1 j (fl F (u.1 j) 0), u.2) := by
  rw [fl_0, upM_id]
theorem fl_uS (F : Nat → Int64) (u : StB) (j i : Nat) {x : Int64} (hx : x = F i) : ((upM (upM u.1 j (fl F (u.1 j) i)) j (vp_updL (upM u.1 j (fl F (u.1 j) i) j) i x), u.2) : StB) = (upM u.1 j (fl F (u.1 j) (i + 1)), u.2) := by
  subst hx
  rw [upM_u, upM_s, fl_s]
/-- a row not yet written from i on, read there -/
theorem fl_rd (F : Nat → Int64) (M : Nat → Nat → Int64) (j o : Nat) {i k : Nat} (h : i ≤ k) : upM M j (fl F (M j) i) o k = M o k := by
  by_cases hq : o = j
  · subst hq
    rw [upM_s, fl_ge _ _ h]
  · rw [upM_n _ _ hq]
def sI (f : Nat → Int32) : Nat → Int32
  | 0 => 0
  | n + 1 => sI f n + f n
def fX0_wordAt (w : Nat → Int64) (p0 : Int32) : Int64 := if p0 < 0 then 0 else if 63 ≤ p0 then 0 else w p0.toNatClampNeg
def fX0_bit (w : Nat → Int64) (p0 : Int32) : Int32 := ((fX0_wordAt w (p0 >>> (6 &&& 31))).toUInt64 >>> ((p0 &&& 63).toInt64.toUInt64 &&& Int64.toUInt64 63)).toInt64.toInt32 &&& 1
def fX0_bitsFrom (w : Nat → Int64) (p0 : Int32) : Int64 := if p0 &&& 63 = 0 then fX0_wordAt w (p0 >>> (6 &&& 31)) else ((fX0_wordAt w (p0 >>> (6 &&& 31))).toUInt64 >>> ((p0 &&& 63).toInt64.toUInt64 &&& Int64.toUInt64 63)).toInt64 ||| (fX0_wordAt w ((p0 >>> (6 &&& 31)) + 1)) <<< ((64 - (p0 &&& 63)).toInt64 &&& 63)
def bcW (w : Nat → Int64) (i : Nat) : Int32 := fJ7_bitCount (w i)
def fX0_ones (w : Nat → Int64) : Int32 := sI (bcW w) 63
def mkC (p1 p2 : Int32) (i : Nat) : Int64 := fX0_lowBits (p2 - 64 * nI i) &&& (fX0_lowBits (p1 - 64 * nI i) ^^^ (-1))
def chW (w : Nat → Int64) (p0 p1 p2 : Int32) (i : Nat) : Int64 := fX0_changed (w i) p0 (mkC p1 p2 i)
def ffW (w : Nat → Int64) (p0 : Int32) (p1 : Int64) (i : Nat) : Int64 := (w i ^^^ p1) &&& (fX0_lowBits (p0 - 64 * nI i) ^^^ (-1))
def luW (w : Nat → Int64) (p0 : Int32) (p1 : Int64) (i : Nat) : Int64 := (w i ^^^ p1) &&& fX0_lowBits (p0 + 1 - 64 * nI i)
/-- the answer of firstFrom, of lastUpTo -/
def pFF (w : Nat → Int64) (p0 : Int32) (p1 : Int64) (r : Int32) : Prop := (∃ i, i < 63 ∧ (∀ k, k < i → ffW w p0 p1 k = 0) ∧ ¬ ffW w p0 p1 i = 0 ∧ r = 64 * nI i + fJ7_numberOfTrailingZeros (ffW w p0 p1 i)) ∨ ((∀ k, k < 63 → ffW w p0 p1 k = 0) ∧ r = -1)
def pLU (w : Nat → Int64) (p0 : Int32) (p1 : Int64) (r : Int32) : Prop := (∃ i, i < 63 ∧ (∀ k, i < k → k < 63 → luW w p0 p1 k = 0) ∧ ¬ luW w p0 p1 i = 0 ∧ r = 64 * nI i + 63 - fJ7_numberOfLeadingZeros (luW w p0 p1 i)) ∨ ((∀ k, k < 63 → luW w p0 p1 k = 0) ∧ r = -1)
def cbW (w v : Nat → Int64) (p0 : Int32) (i : Nat) : Int64 := fX0_combined (w i) p0 (v i)
def tpW (v : Nat → Int64) (p1 p2 : Int32) (i : Nat) : Int64 := fX0_bitsFrom v (p1 + 64 * nI i) &&& fX0_lowBits (p2 - p1 - 64 * nI i)
def zr (w : Nat → Int64) (i : Nat) : Nat → Int64 := fun k => if k < 3 then w k else if k < i then 0 else w k
theorem zr_0 (w : Nat → Int64) : zr w 3 = w := by
  funext k
  unfold zr
  by_cases h : k < 3
  · rw [if_pos h]
  · rw [if_neg h, if_neg h]
theorem zr_s (w : Nat → Int64) {i : Nat} (hi : 3 ≤ i) : vp_updL (zr w i) i 0 = zr w (i + 1) := by
  funext k
  unfold zr vp_updL
  by_cases h : k = i
  · subst h
    rw [if_pos rfl, if_neg (by omega), if_pos (by omega)]
  · rw [if_neg h]
    show (if k < 3 then w k else if k < i then 0 else w k) = _
    by_cases h3 : k < 3
    · rw [if_pos h3, if_pos h3]
    · rw [if_neg h3, if_neg h3]
      by_cases h2 : k < i
      · rw [if_pos h2, if_pos (by omega)]
      · rw [if_neg h2, if_neg (by omega)]
theorem zr_u0 (u : StB) (j : Nat) : u = (upM u.1 j (zr (u.1 j) 3), u.2) := by
  rw [zr_0, upM_id]
theorem zr_uS (u : StB) (j i : Nat) (hi : 3 ≤ i) : ((upM (upM u.1 j (zr (u.1 j) i)) j (vp_updL (upM u.1 j (zr (u.1 j) i) j) i 0), u.2) : StB) = (upM u.1 j (zr (u.1 j) (i + 1)), u.2) := by
  rw [upM_u, upM_s, zr_s _ hi]
def twW (w : Nat → Int64) (a b c : Int64) : Nat → Int64 := vp_updL (vp_updL (vp_updL (zr w 63) 0 a) 1 b) 2 c
theorem tw_uE (u : StB) (j : Nat) (a b c : Int64) : ((upM (upM (upM (upM u.1 j (zr (u.1 j) 63)) j (vp_updL (upM u.1 j (zr (u.1 j) 63) j) 0 a)) j (vp_updL (upM (upM u.1 j (zr (u.1 j) 63)) j (vp_updL (upM u.1 j (zr (u.1 j) 63) j) 0 a) j) 1 b)) j (vp_updL (upM (upM (upM u.1 j (zr (u.1 j) 63)) j (vp_updL (upM u.1 j (zr (u.1 j) 63) j) 0 a)) j (vp_updL (upM (upM u.1 j (zr (u.1 j) 63)) j (vp_updL (upM u.1 j (zr (u.1 j) 63) j) 0 a) j) 1 b) j) 2 c), u.2) : StB) = (upM u.1 j (twW (u.1 j) a b c), u.2) := by
  simp only [upM_u, upM_s]
  rfl
def pSO (w v : Nat → Int64) (r : Int32) : Prop := (r = 1 ∧ ∃ i, i < 63 ∧ ¬ w i &&& v i = 0) ∨ (r = 0 ∧ ∀ i, i < 63 → w i &&& v i = 0)
def pSM (w v : Nat → Int64) (r : Int32) : Prop := (r = 0 ∧ ∃ i, i < 63 ∧ ¬ w i = v i) ∨ (r = 1 ∧ ∀ i, i < 63 → w i = v i)
/-- walk: rest, rank, sum after one more 1, after n, after all of i words -/
def rk1 (i : Nat) (q : Int64 × Int64 × Int64) : Int64 × Int64 × Int64 := (q.1 &&& (q.1 - 1), q.2.1 + 1, q.2.2 + (q.2.1 + 1) * (64 * nI i + fJ7_numberOfTrailingZeros q.1).toInt64)
def rkN (i : Nat) (q : Int64 × Int64 × Int64) : Nat → Int64 × Int64 × Int64
  | 0 => q
  | n + 1 => rk1 i (rkN i q n)
def pcN (x : Int64) : Nat := (fJ7_bitCount x).toNatClampNeg
def rkO (w : Nat → Int64) : Nat → Int64 × Int64
  | 0 => (0, 0)
  | i + 1 => (rkN i (w i, rkO w i) (pcN (w i))).2
theorem lp0_out {k C : Nat} (h : k ≤ C) (hC : C < 2 ^ 31) (c : nI (C - k) ≤ 0) : k = C := by
  rw [← nI_0, nI_leI (by omega) (by omega)] at c
  omega
theorem lp0_in {k C : Nat} (h : k ≤ C) (c : ¬ nI (C - k) ≤ 0) : k < C := by
  rcases Nat.lt_or_ge k C with q | q
  · exact q
  · exact absurd (by rw [show C - k = 0 by omega, nI_0]; exact i_rf _) c
/-! a piece of words: what is read isn't written yet -/
theorem wa_ext {w v : Nat → Int64} {i : Nat} (h : ∀ k, i ≤ k → w k = v k) {p : Int32} (hp : i ≤ p.toNatClampNeg) : fX0_wordAt w p = fX0_wordAt v p := by
  unfold fX0_wordAt
  rw [h _ hp]
theorem pc_of {p1 p2 : Int32} (h : ¬ fX2_isPiece p1 p2 = 0) : ∃ a b : Nat, a ≤ b ∧ b ≤ 4001 ∧ p1 = nI a ∧ p2 = nI b := by
  unfold fX2_isPiece at h
  by_cases c1 : p1 < 0
  · rw [if_pos c1] at h
    exact absurd rfl h
  · rw [if_neg c1] at h
    by_cases c2 : p2 < p1
    · rw [if_pos c2] at h
      exact absurd rfl h
    · rw [if_neg c2] at h
      by_cases c3 : 4001 < p2
      · rw [if_pos c3] at h
        exact absurd rfl h
      · rw [Int32.lt_iff_toInt_lt] at c1 c2 c3
        have e0 : (0 : Int32).toInt = 0 := rfl
        have e1 : (4001 : Int32).toInt = 4001 := rfl
        obtain ⟨a, ha, rfl⟩ := nI_of (x := p1) (by rw [Int32.lt_iff_toInt_lt]; omega)
        obtain ⟨b, hb, rfl⟩ := nI_of (x := p2) (by rw [Int32.lt_iff_toInt_lt]; omega)
        rw [nI_toInt ha] at c2
        rw [nI_toInt hb] at c2 c3
        exact ⟨a, b, by omega, by omega, rfl, rfl⟩
theorem bf_ext {w v : Nat → Int64} {a i : Nat} (ha : a ≤ 4001) (hi : i ≤ 63) (h : ∀ k, i ≤ k → w k = v k) : fX0_bitsFrom w (nI a + 64 * nI i) = fX0_bitsFrom v (nI a + 64 * nI i) := by
  have e : nI a + 64 * nI i = nI (a + 64 * i) := by
    rw [show (64 : Int32) = nI 64 from rfl, pk_mul, nI_add]
  have e6 : nI (a + 64 * i) >>> ((6 : Int32) &&& 31) = nI ((a + 64 * i) / 2 ^ 6) := pk_shrN (by omega) _ 6 (by decide)
  unfold fX0_bitsFrom
  rw [e, e6, wa_ext h (by rw [nI_clamp (by omega)]; omega), wa_ext h (p := nI ((a + 64 * i) / 2 ^ 6) + 1) (by rw [nI_1, nI_clamp (by omega)]; omega)]
theorem tp_uS (u : StB) (j o i : Nat) {p1 p2 : Int32} (hp : ¬ fX2_isPiece p1 p2 = 0) (hi : i ≤ 63) : fX0_bitsFrom (upM u.1 j (fl (tpW (u.1 o) p1 p2) (u.1 j) i) o) (p1 + 64 * nI i) &&& fX0_lowBits (p2 - p1 - 64 * nI i) = tpW (u.1 o) p1 p2 i := by
  obtain ⟨a, b, h1, h2, rfl, rfl⟩ := pc_of hp
  unfold tpW
  rw [bf_ext (by omega) hi (fun k hk => fl_rd _ u.1 j o hk)]
/-! rows that there are -/
theorem row_in {p : Int32} (h : ¬ fX2_isRow p = 0) : vp_in p 4 := by
  unfold fX2_isRow at h
  by_cases c1 : p < 0
  · rw [if_pos c1] at h
    exact absurd rfl h
  · rw [if_neg c1] at h
    by_cases c2 : 4 ≤ p
    · rw [if_pos c2] at h
      exact absurd rfl h
    · exact vp_in_lit rfl c1 c2
theorem row_lt {p : Int32} (h : ¬ fX2_isRow p = 0) : p.toNatClampNeg < 4 := Nat.not_le.mp fun q => row_in h (Or.inr q)
/-! the latest text -/
def txB (v : StB) (t : List Int32) : Prop := v.2.2 = nI t.length ∧ t.length ≤ 530 ∧ ∀ k, k < t.length → v.2.1 k = t.getD k 0
def adT (t : List Int32) (c : Int32) : List Int32 := if t.length < 530 then t ++ [c] else t
theorem tx_nil (M : Nat → Nat → Int64) (f : Nat → Int32) : txB (M, f, 0) [] := ⟨rfl, by decide, fun k h => absurd h (by simp)⟩
theorem ad_lt {u : StB} {t : List Int32} (ht : txB u t) (c : ¬ 530 ≤ u.2.2) : t.length < 530 := by
  obtain ⟨h1, h2, -⟩ := ht
  rw [h1] at c
  exact lp_in (M := 530) rfl h2 c
theorem ad_in {u : StB} {t : List Int32} (ht : txB u t) (c : ¬ 530 ≤ u.2.2) : vp_in u.2.2 530 := by
  have h := ad_lt ht c
  rw [ht.1]
  exact vp_in_nI h (by decide)
theorem ad_ok {u : StB} {t : List Int32} (x : Int32) (ht : txB u t) (c : ¬ 530 ≤ u.2.2) : txB (u.1, upd u.2.1 u.2.2.toNatClampNeg x, u.2.2 + 1) (adT t x) := by
  have h := ad_lt ht c
  obtain ⟨h1, h2, h3⟩ := ht
  have e : adT t x = t ++ [x] := if_pos h
  have ec : u.2.2.toNatClampNeg = t.length := by rw [h1, nI_clamp (by omega)]
  rw [e]
  refine ⟨?_, ?_, fun k hk => ?_⟩
  · show u.2.2 + 1 = _
    rw [h1, nI_1, List.length_append]
    rfl
  · rw [List.length_append]
    exact h
  · show upd u.2.1 u.2.2.toNatClampNeg x k = _
    rw [ec]
    rw [List.length_append, List.length_singleton] at hk
    by_cases hq : k = t.length
    · subst hq
      rw [pk_us]
      simp
    · rw [pk_un hq, h3 k (by omega)]
      simp [List.getElem?_append_left (show k < t.length by omega)]
theorem ad_no {u : StB} {t : List Int32} (x : Int32) (ht : txB u t) (c : 530 ≤ u.2.2) : txB u (adT t x) := by
  have h : ¬ t.length < 530 := fun h => by
    rw [ht.1] at c
    have := lp_out (n := 530) rfl ht.2.1 (by decide) c
    omega
  have e : adT t x = t := if_neg h
  rw [e]
  exact ht
def dgT (t : List Int32) (d : Int32) : List Int32 := adT t (vp_nar .char ((48 + d).toUInt32 % 65536).toInt32)
def ap1 (t : List Int32) : List Int32 := if nI t.length ≤ 1 then t else adT (adT t (vp_nar .char 44)) (vp_nar .char 32)
def ap2 (p : Int32) (t : List Int32) : List Int32 := if p < 100 then t else dgT t (p / 100)
def ap3 (p : Int32) (t : List Int32) : List Int32 := if p < 10 then t else dgT t ((p / 10) - (p / 10) / 10 * 10)
def apT (p : Int32) (t : List Int32) : List Int32 := dgT (ap3 p (ap2 p (ap1 t))) (p - p / 10 * 10)
def wrL (w : Nat → Int64) : Nat → List Int32
  | 0 => adT [] (vp_nar .char 123)
  | n + 1 => if fX0_bit w (nI n) = 1 then apT (nI n) (wrL w n) else wrL w n
def wrT (w : Nat → Int64) : List Int32 := adT (wrL w 128) (vp_nar .char 125)
/-! the count of a loop that counts down: n places are left, the next is n - 1 -/
def iD : Nat → Int32
  | 0 => -1
  | n + 1 => nI n
theorem iD_m1 (n : Nat) : nI n + (-1) = iD n := by
  cases n with
  | zero => rfl
  | succ n => exact pk_m1 n
theorem lu_s {p : Nat → Prop} {i : Nat} (h : ∀ k, i + 1 ≤ k → k < 63 → p k) (hi : p i) : ∀ k, i ≤ k → k < 63 → p k := by
  intro k h1 h2
  by_cases e : k = i
  · exact e ▸ hi
  · exact h k (by omega) h2
section GD
variable {p : Program} {l : Launch} {e : Env} {R : Room} {s : State} {m : MethodId} {args : Array Value} {below : List Frame} {meth : Method} {c : Code} {H : Heap} {locs : List Loc} {cells slots : Nat} {Q : State → Prop} {ls : Array Slot}
theorem w_loopD {N : Nat} {pc : Nat} (Iv : Nat → Heap → List Loc → Array Slot → Prop) (h0 : Iv N H locs ls)
    (base : ∀ (H : Heap) (locs : List Loc) (ls : Array Slot), Iv 0 H locs ls → W p l e R s m args below meth c H locs cells slots Q (F0 m pc ls []))
    (step : ∀ (i : Nat) (H : Heap) (locs : List Loc) (ls : Array Slot), i < N → Iv (i + 1) H locs ls → (∀ (H' : Heap) (locs' : List Loc) (ls' : Array Slot), Iv i H' locs' ls' → W p l e R s m args below meth c H' locs' cells slots Q (F0 m pc ls' [])) → W p l e R s m args below meth c H locs cells slots Q (F0 m pc ls [])) :
    W p l e R s m args below meth c H locs cells slots Q (F0 m pc ls []) := by
  have key : ∀ (n : Nat), n ≤ N → ∀ (H : Heap) (locs : List Loc) (ls : Array Slot), Iv n H locs ls → W p l e R s m args below meth c H locs cells slots Q (F0 m pc ls []) := by
    intro n
    induction n with
    | zero => exact fun _ H locs ls hI => base H locs ls hI
    | succ n ih => exact fun hn H locs ls hI => step n H locs ls (by omega) hI (fun H' locs' ls' hI' => ih (by omega) H' locs' ls' hI')
  exact key N (Nat.le_refl _) H locs ls h0
end GD

def fX1_codeAt (u : StB) (p0 : Int32) : Int32 := if p0 < 0 then -2 else if p0 < u.2.2 then u.2.1 p0.toNatClampNeg else -2
theorem ca_in {u : StB} {t : List Int32} {p : Int32} (ht : txB u t) (c1 : ¬ p < 0) (c2 : p < u.2.2) : vp_in p 530 := by
  obtain ⟨h1, h2, -⟩ := ht
  rw [h1] at c2
  rw [Int32.lt_iff_toInt_lt] at c1 c2
  rw [nI_toInt (by omega)] at c2
  have e0 : (0 : Int32).toInt = 0 := rfl
  rw [vp_in_iff]
  omega
theorem pcN_lt (x : Int64) : pcN x < 2 ^ 31 := by
  unfold pcN
  have h := (fJ7_bitCount x).toInt_lt
  have e : (fJ7_bitCount x).toNatClampNeg = (fJ7_bitCount x).toInt.toNat := rfl
  omega
theorem rk_dec {k C : Nat} (h : k < C) : nI (C - k) + (-1) = nI (C - (k + 1)) := by
  rw [nI_dec (by omega)]
  congr 1
end
section
theorem nx_and (a b : Nat) : nI a &&& nI b = nI (a &&& b) := by
  apply Int32.toBitVec_inj.1
  show BitVec.ofNat 32 a &&& BitVec.ofNat 32 b = BitVec.ofNat 32 (a &&& b)
  apply BitVec.eq_of_getLsbD_eq
  intro i hi
  simp [hi]
theorem nx_xor (a b : Nat) : nI a ^^^ nI b = nI (a ^^^ b) := by
  apply Int32.toBitVec_inj.1
  show BitVec.ofNat 32 a ^^^ BitVec.ofNat 32 b = BitVec.ofNat 32 (a ^^^ b)
  apply BitVec.eq_of_getLsbD_eq
  intro i hi
  simp [hi]
theorem wb_tb (n : Nat) : (lN n).toBitVec = BitVec.ofNat 64 n := rfl
theorem wb_inj {a b : Int64} (h : a.toBitVec = b.toBitVec) : a = b := Int64.toBitVec_inj.mp h
theorem wb_tn {n : Nat} (h : n < 2 ^ 64) : (lN n).toBitVec.toNat = n := by rw [wb_tb, BitVec.toNat_ofNat, Nat.mod_eq_of_lt h]
theorem wb_of (x : Int64) : ∃ n, n < 2 ^ 64 ∧ x = lN n := ⟨x.toBitVec.toNat, x.toBitVec.isLt, wb_inj (by rw [wb_tb]; simp)⟩
theorem wb_of32 (x : Int32) : ∃ n, n < 2 ^ 32 ∧ x = nI n := ⟨x.toBitVec.toNat, x.toBitVec.isLt, Int32.toBitVec_inj.mp (by show _ = BitVec.ofNat 32 _; simp)⟩
theorem wb_c : ∀ k, k < 64 → ((nI k).toInt64 &&& 63) = lN k := by decide +kernel
theorem wb_cu : ∀ k, k < 64 → ((nI k).toInt64.toUInt64 &&& Int64.toUInt64 63) = UInt64.ofNat k := by decide +kernel
theorem wb_sm : ∀ k, k < 64 → (BitVec.ofNat 64 k).smod 64 = BitVec.ofNat 64 k := by decide +kernel
theorem wb_pw {a b : Nat} (h : a ≤ b) : 2 ^ b = 2 ^ a * 2 ^ (b - a) := by rw [← Nat.pow_add]; congr 1; omega
theorem wb_lt2 {a b : Nat} (h : a < b) : 2 ^ a < 2 ^ b := Nat.pow_lt_pow_right (by decide) h
theorem wb_mod (n : Nat) : lN n = lN (n % 2 ^ 64) := wb_inj (by rw [wb_tb, wb_tb]; apply BitVec.eq_of_toNat_eq; rw [BitVec.toNat_ofNat, BitVec.toNat_ofNat, Nat.mod_mod])
theorem wb_shr {n k : Nat} (hn : n < 2 ^ 64) (hk : k < 64) : ((lN n).toUInt64 >>> ((nI k).toInt64.toUInt64 &&& Int64.toUInt64 63)).toInt64 = lN (n / 2 ^ k) := by
  rw [wb_cu k hk]
  apply wb_inj
  apply BitVec.eq_of_toNat_eq
  show ((lN n).toUInt64 >>> UInt64.ofNat k).toNat = (BitVec.ofNat 64 _).toNat
  have h1 : (UInt64.ofNat k).toNat = k := by
    show (BitVec.ofNat 64 k).toNat = k
    rw [BitVec.toNat_ofNat, Nat.mod_eq_of_lt (by omega)]
  have h2 : (lN n).toUInt64.toNat = n := wb_tn hn
  rw [UInt64.toNat_shiftRight, h1, h2, Nat.mod_eq_of_lt hk, Nat.shiftRight_eq_div_pow, BitVec.toNat_ofNat, Nat.mod_eq_of_lt (Nat.lt_of_le_of_lt (Nat.div_le_self _ _) hn)]
theorem wb_shl (n : Nat) {k : Nat} (hk : k < 64) : lN n <<< ((nI k).toInt64 &&& 63) = lN (n * 2 ^ k) := by
  rw [wb_c k hk]
  apply wb_inj
  rw [Int64.toBitVec_shiftLeft, wb_tb, wb_tb, wb_tb, wb_sm k hk]
  apply BitVec.eq_of_toNat_eq
  rw [BitVec.shiftLeft_eq', BitVec.toNat_shiftLeft, BitVec.toNat_ofNat, BitVec.toNat_ofNat, BitVec.toNat_ofNat, Nat.mod_eq_of_lt (show k < 2 ^ 64 by omega), Nat.shiftLeft_eq, Nat.mul_mod, Nat.mod_mod, ← Nat.mul_mod]
theorem wb_and {a b : Nat} (ha : a < 2 ^ 64) (hb : b < 2 ^ 64) : lN a &&& lN b = lN (a &&& b) := by
  apply wb_inj
  rw [Int64.toBitVec_and, wb_tb, wb_tb, wb_tb]
  apply BitVec.eq_of_toNat_eq
  rw [BitVec.toNat_and, BitVec.toNat_ofNat, BitVec.toNat_ofNat, BitVec.toNat_ofNat, Nat.mod_eq_of_lt ha, Nat.mod_eq_of_lt hb, Nat.mod_eq_of_lt (Nat.and_lt_two_pow _ hb)]
theorem wb_or {a b : Nat} (ha : a < 2 ^ 64) (hb : b < 2 ^ 64) : lN a ||| lN b = lN (a ||| b) := by
  apply wb_inj
  rw [Int64.toBitVec_or, wb_tb, wb_tb, wb_tb]
  apply BitVec.eq_of_toNat_eq
  rw [BitVec.toNat_or, BitVec.toNat_ofNat, BitVec.toNat_ofNat, BitVec.toNat_ofNat, Nat.mod_eq_of_lt ha, Nat.mod_eq_of_lt hb, Nat.mod_eq_of_lt (Nat.or_lt_two_pow ha hb)]
theorem wb_mask {n k : Nat} (hn : n < 2 ^ 64) (hk : k < 64) : lN n &&& lN (2 ^ k - 1) = lN (n % 2 ^ k) := by
  rw [wb_and hn (by have := wb_lt2 hk; omega), Nat.and_two_pow_sub_one_eq_mod]
theorem wb_a1 {n : Nat} (hn : n < 2 ^ 64) : lN n &&& 1 = lN (n % 2) := wb_mask (k := 1) hn (by decide)
theorem wb_bit {n k : Nat} (hn : n < 2 ^ 64) (hk : k < 64) : ((lN n).toUInt64 >>> ((nI k).toInt64.toUInt64 &&& Int64.toUInt64 63)).toInt64 &&& 1 = lN (n / 2 ^ k % 2) := by
  rw [wb_shr hn hk, wb_a1 (Nat.lt_of_le_of_lt (Nat.div_le_self _ _) hn)]
theorem wb_xor {q k : Nat} (hk : k < 63) (h : 2 ^ k ≤ q) (h2 : q < 2 ^ (k + 1)) : lN q ^^^ lN (2 ^ k) = lN (q - 2 ^ k) := by
  obtain ⟨r, rfl⟩ : ∃ r, q = 2 ^ k + r := ⟨q - 2 ^ k, by omega⟩
  have hr : r < 2 ^ k := by rw [Nat.pow_succ] at h2; omega
  have hx : (2 ^ k + r) ^^^ 2 ^ k = r := by
    apply Nat.eq_of_testBit_eq
    intro i
    rw [Nat.testBit_xor, Nat.testBit_two_pow]
    rcases Nat.lt_trichotomy i k with h | h | h
    · rw [Nat.testBit_two_pow_add_gt h]
      simp [show ¬ k = i by omega]
    · subst h
      rw [Nat.testBit_two_pow_add_eq]
      simp
    · have a1 : 2 ^ (k + 1) ≤ 2 ^ i := Nat.pow_le_pow_right (by decide) h
      rw [Nat.testBit_lt_two_pow (show 2 ^ k + r < 2 ^ i by omega), Nat.testBit_lt_two_pow (show r < 2 ^ i by omega)]
      simp [show ¬ k = i by omega]
  have b1 := wb_lt2 (show k + 1 < 64 by omega)
  have b2 := wb_lt2 (show k < 64 by omega)
  apply wb_inj
  rw [Int64.toBitVec_xor, wb_tb, wb_tb, wb_tb]
  apply BitVec.eq_of_toNat_eq
  rw [BitVec.toNat_xor, BitVec.toNat_ofNat, BitVec.toNat_ofNat, BitVec.toNat_ofNat, Nat.mod_eq_of_lt (by omega : 2 ^ k + r < 2 ^ 64), Nat.mod_eq_of_lt b2, hx, Nat.add_sub_cancel_left, Nat.mod_eq_of_lt (by omega)]
/-! how many bits: sums of digits -/
theorem and_sp {s a b x y : Nat} (ha : a < 2 ^ s) (hb : b < 2 ^ s) : (2 ^ s * x + a) &&& (2 ^ s * y + b) = 2 ^ s * (x &&& y) + (a &&& b) := by
  apply Nat.eq_of_testBit_eq
  intro j
  rw [Nat.testBit_and, Nat.testBit_two_pow_mul_add _ ha, Nat.testBit_two_pow_mul_add _ hb, Nat.testBit_two_pow_mul_add _ (Nat.lt_of_le_of_lt Nat.and_le_left ha)]
  split
  · rw [Nat.testBit_and]
  · rw [Nat.testBit_and]
/-- the sum of m digits of n, base B -/
def sd (B : Nat) : Nat → Nat → Nat
  | 0, _ => 0
  | m + 1, n => n % B + sd B m (n / B)
/-- the mask of the even digits, base 2^t, of m pairs -/
def ev (t : Nat) : Nat → Nat
  | 0 => 0
  | m + 1 => 2 ^ (2 * t) * ev t m + (2 ^ t - 1)
/-- pairs of digits added -/
def fP (t m n : Nat) : Nat := (n &&& ev t m) + (n / 2 ^ t &&& ev t m)
theorem p2t (t : Nat) : 2 ^ (2 * t) = 2 ^ t * 2 ^ t := by
  rw [← Nat.pow_add]
  congr 1
  omega
theorem ev_lo (t m n : Nat) : n &&& ev t (m + 1) = 2 ^ (2 * t) * (n / 2 ^ (2 * t) &&& ev t m) + n % 2 ^ t := by
  have h1 : 0 < 2 ^ t := Nat.two_pow_pos t
  have h2 : 2 ^ t ≤ 2 ^ (2 * t) := Nat.pow_le_pow_right (by decide) (by omega)
  have h3 : n % 2 ^ (2 * t) < 2 ^ (2 * t) := Nat.mod_lt _ (by omega)
  have e : n = 2 ^ (2 * t) * (n / 2 ^ (2 * t)) + n % 2 ^ (2 * t) := (Nat.div_add_mod _ _).symm
  have e2 : n % 2 ^ (2 * t) % 2 ^ t = n % 2 ^ t := Nat.mod_mod_of_dvd _ ⟨2 ^ t, p2t t⟩
  have k : n &&& ev t (m + 1) = (2 ^ (2 * t) * (n / 2 ^ (2 * t)) + n % 2 ^ (2 * t)) &&& (2 ^ (2 * t) * ev t m + (2 ^ t - 1)) := by
    rw [← e]
    rfl
  rw [k, and_sp h3 (by omega), Nat.and_two_pow_sub_one_eq_mod, e2]
theorem dv2 (t n : Nat) : n / 2 ^ t / 2 ^ (2 * t) = n / 2 ^ (2 * t) / 2 ^ t := by
  rw [Nat.div_div_eq_div_mul, Nat.div_div_eq_div_mul, Nat.mul_comm]
theorem fP_s (t m n : Nat) : fP t (m + 1) n = 2 ^ (2 * t) * fP t m (n / 2 ^ (2 * t)) + (n % 2 ^ t + n / 2 ^ t % 2 ^ t) := by
  unfold fP
  rw [ev_lo, ev_lo, dv2, Nat.mul_add]
  omega
theorem dg_lt {t : Nat} (ht : 0 < t) (n : Nat) : n % 2 ^ t + n / 2 ^ t % 2 ^ t < 2 ^ (2 * t) := by
  have h1 : 2 ≤ 2 ^ t := by
    have := Nat.pow_le_pow_right (n := 2) (by decide) ht
    exact this
  have h3 : n % 2 ^ t < 2 ^ t := Nat.mod_lt _ (by omega)
  have h4 : n / 2 ^ t % 2 ^ t < 2 ^ t := Nat.mod_lt _ (by omega)
  have h5 : 2 * 2 ^ t ≤ 2 ^ t * 2 ^ t := Nat.mul_le_mul_right _ h1
  rw [p2t]
  omega
theorem sd_P {t : Nat} (ht : 0 < t) : ∀ m n, sd (2 ^ (2 * t)) m (fP t m n) = sd (2 ^ t) (2 * m) n := by
  intro m
  induction m with
  | zero => exact fun n => rfl
  | succ m ih =>
    intro n
    have h := dg_lt ht n
    have e1 : fP t (m + 1) n % 2 ^ (2 * t) = n % 2 ^ t + n / 2 ^ t % 2 ^ t := by
      rw [fP_s, Nat.mul_add_mod, Nat.mod_eq_of_lt h]
    have e2 : fP t (m + 1) n / 2 ^ (2 * t) = fP t m (n / 2 ^ (2 * t)) := by
      rw [fP_s, Nat.mul_add_div (by omega), Nat.div_eq_of_lt h, Nat.add_zero]
    have e3 : sd (2 ^ t) (2 * (m + 1)) n = n % 2 ^ t + (n / 2 ^ t % 2 ^ t + sd (2 ^ t) (2 * m) (n / 2 ^ t / 2 ^ t)) := rfl
    show fP t (m + 1) n % 2 ^ (2 * t) + sd (2 ^ (2 * t)) m (fP t (m + 1) n / 2 ^ (2 * t)) = _
    rw [e1, e2, ih, e3, Nat.div_div_eq_div_mul, ← p2t]
    omega
/-- all m digits at most c, and nothing behind -/
def dgs (B c : Nat) : Nat → Nat → Prop
  | 0, n => n = 0
  | m + 1, n => n % B ≤ c ∧ dgs B c m (n / B)
theorem dgs_P {t c : Nat} (ht : 0 < t) (hc : 2 * (2 ^ t - 1) ≤ c) : ∀ m n, dgs (2 ^ (2 * t)) c m (fP t m n) := by
  intro m
  induction m with
  | zero =>
    intro n
    show (n &&& 0) + (n / 2 ^ t &&& 0) = 0
    rw [Nat.and_zero, Nat.and_zero]
  | succ m ih =>
    intro n
    have h := dg_lt ht n
    have h0 : 0 < 2 ^ t := Nat.two_pow_pos t
    have h3 : n % 2 ^ t < 2 ^ t := Nat.mod_lt _ h0
    have h4 : n / 2 ^ t % 2 ^ t < 2 ^ t := Nat.mod_lt _ h0
    refine ⟨?_, ?_⟩
    · rw [fP_s, Nat.mul_add_mod, Nat.mod_eq_of_lt h]
      omega
    · rw [fP_s, Nat.mul_add_div (by omega), Nat.div_eq_of_lt h, Nat.add_zero]
      exact ih _
/-- a number is its even digits and its odd ones -/
theorem ev_all {t : Nat} : ∀ m n, n < (2 ^ (2 * t)) ^ m → (n &&& ev t m) + 2 ^ t * (n / 2 ^ t &&& ev t m) = n := by
  intro m
  induction m with
  | zero =>
    intro n h
    have : n = 0 := by
      rw [Nat.pow_zero] at h
      omega
    subst this
    simp
  | succ m ih =>
    intro n h
    have hq : n / 2 ^ (2 * t) < (2 ^ (2 * t)) ^ m := by
      rw [Nat.pow_succ] at h
      exact Nat.div_lt_of_lt_mul (by rw [Nat.mul_comm]; exact h)
    have k := ih _ hq
    rw [ev_lo, ev_lo, dv2]
    generalize n / 2 ^ (2 * t) &&& ev t m = a at k ⊢
    generalize n / 2 ^ (2 * t) / 2 ^ t &&& ev t m = b at k ⊢
    have e1 : 2 ^ (2 * t) * (n / 2 ^ (2 * t)) + n % 2 ^ (2 * t) = n := Nat.div_add_mod _ _
    have e2 : 2 ^ t * (n / 2 ^ t % 2 ^ t) + n % 2 ^ t = n % 2 ^ (2 * t) := by
      rw [p2t, Nat.mod_mul]
      omega
    have e3 : 2 ^ t * (2 ^ (2 * t) * b + n / 2 ^ t % 2 ^ t) = 2 ^ (2 * t) * (2 ^ t * b) + 2 ^ t * (n / 2 ^ t % 2 ^ t) := by
      rw [Nat.mul_add, ← Nat.mul_assoc, ← Nat.mul_assoc, Nat.mul_comm (2 ^ t) (2 ^ (2 * t))]
    rw [e3]
    have e4 : 2 ^ (2 * t) * a + 2 ^ (2 * t) * (2 ^ t * b) = 2 ^ (2 * t) * (n / 2 ^ (2 * t)) := by
      rw [← Nat.mul_add, k]
    omega
theorem ad16_h {n a q q' d0 d1 d2 : Nat} (e0 : n = 16 * a + d0) (e1 : a = 16 * q + d1) (e2 : q = 16 * q' + d2) (h0 : d0 ≤ 6) (h1 : d1 ≤ 6) (h2 : d2 ≤ 6) : (n + a) / 256 = q + q' := by omega
/-- the third step: added first, masked then -/
theorem ad16 : ∀ m n, dgs 16 6 (2 * m) n → (n + n / 16) &&& ev 4 m = fP 4 m n := by
  intro m
  induction m with
  | zero =>
    intro n h
    show (n + n / 16) &&& 0 = (n &&& 0) + (n / 2 ^ 4 &&& 0)
    rw [Nat.and_zero, Nat.and_zero, Nat.and_zero]
  | succ m ih =>
    intro n h
    obtain ⟨h0, h1, h2⟩ : n % 16 ≤ 6 ∧ n / 16 % 16 ≤ 6 ∧ dgs 16 6 (2 * m) (n / 16 / 16) := h
    have hq : n / 16 / 16 % 16 ≤ 6 := by
      cases m with
      | zero =>
        have : n / 16 / 16 = 0 := h2
        omega
      | succ m => exact h2.1
    have e8 : (2 : Nat) ^ (2 * 4) = 256 := by decide
    have e4 : (2 : Nat) ^ 4 = 16 := by decide
    have k := ih _ h2
    rw [ev_lo, fP_s, e8, e4]
    have en : n / 256 = n / 16 / 16 := by rw [Nat.div_div_eq_div_mul]
    have q1 : (n + n / 16) / 256 = n / 256 + n / 256 / 16 := by
      rw [en]
      exact ad16_h (d0 := n % 16) (d1 := n / 16 % 16) (d2 := n / 16 / 16 % 16) (by omega) (by omega) (by omega) h0 h1 hq
    have q2 : (n + n / 16) % 16 = n % 16 + n / 16 % 16 := by omega
    rw [q1, q2]
    rw [show n / 256 = n / 16 / 16 by omega, k]
/-- the last steps: 8 bytes added up -/
theorem dgs_c {m n : Nat} (h : dgs 256 12 (m + 1) n) : ∃ d q, n = 256 * q + d ∧ d ≤ 12 ∧ dgs 256 12 m q ∧ sd 256 (m + 1) n = d + sd 256 m q ∧ n / 256 = q := ⟨n % 256, n / 256, by omega, h.1, h.2, rfl, rfl⟩
theorem q1_ad {n r0 r1 r2 d0 d1 d2 : Nat} (e0 : n = 256 * r0 + d0) (e1 : r0 = 256 * r1 + d1) (e2 : r1 = 256 * r2 + d2) (h0 : d0 ≤ 12) (h1 : d1 ≤ 12) (h2 : d2 ≤ 12) : (n + r0) / 65536 = r1 + r2 := by omega
theorem q2_ad {n r0 r1 r2 r3 d0 d1 d2 d3 : Nat} (e0 : n = 256 * r0 + d0) (e1 : r0 = 256 * r1 + d1) (e2 : r1 = 256 * r2 + d2) (e3 : r2 = 256 * r3 + d3) (h0 : d0 ≤ 12) (h1 : d1 ≤ 12) (h2 : d2 ≤ 12) (h3 : d3 ≤ 12) : ∃ x, n = 4294967296 * r3 + x ∧ x ≤ 202116108 := ⟨d0 + 256 * d1 + 65536 * d2 + 16777216 * d3, by omega, by omega⟩
theorem q3_ad {a b c d x y z w p q r s : Nat} (e0 : a = 4294967296 * p + x) (e1 : b = 4294967296 * q + y) (e2 : c = 4294967296 * r + z) (e3 : d = 4294967296 * s + w) (h0 : x ≤ 202116108) (h1 : y ≤ 202116108) (h2 : z ≤ 202116108) (h3 : w ≤ 202116108) : (a + b + (c + d)) / 4294967296 = p + q + (r + s) := by omega
theorem q4_ad {N K S : Nat} (h : N = 256 * K + S) (hS : S ≤ 96) : N % 128 = S := by omega
theorem ad256 {n : Nat} (h : dgs 256 12 8 n) : (n + n / 256 + (n + n / 256) / 65536 + (n + n / 256 + (n + n / 256) / 65536) / 4294967296) % 128 = sd 256 8 n ∧ n < 2 ^ 60 ∧ sd 256 8 n ≤ 96 := by
  obtain ⟨d0, r0, e0, g0, h, s0, f0⟩ := dgs_c h
  obtain ⟨d1, r1, e1, g1, h, s1, -⟩ := dgs_c h
  obtain ⟨d2, r2, e2, g2, h, s2, -⟩ := dgs_c h
  obtain ⟨d3, r3, e3, g3, h, s3, -⟩ := dgs_c h
  obtain ⟨d4, r4, e4, g4, h, s4, -⟩ := dgs_c h
  obtain ⟨d5, r5, e5, g5, h, s5, -⟩ := dgs_c h
  obtain ⟨d6, r6, e6, g6, h, s6, -⟩ := dgs_c h
  obtain ⟨d7, r7, e7, g7, h, s7, -⟩ := dgs_c h
  have hz : r7 = 0 := h
  have hs8 : sd 256 0 r7 = 0 := rfl
  obtain ⟨x0, a0, b0⟩ := q2_ad e0 e1 e2 e3 g0 g1 g2 g3
  obtain ⟨x1, a1, b1⟩ := q2_ad e1 e2 e3 e4 g1 g2 g3 g4
  obtain ⟨x2, a2, b2⟩ := q2_ad e2 e3 e4 e5 g2 g3 g4 g5
  obtain ⟨x3, a3, b3⟩ := q2_ad e3 e4 e5 e6 g3 g4 g5 g6
  obtain ⟨x4, a4, b4⟩ := q2_ad e4 e5 e6 e7 g4 g5 g6 g7
  have eS : sd 256 8 n = d0 + d1 + d2 + d3 + d4 + d5 + d6 + d7 := by
    rw [s0, s1, s2, s3, s4, s5, s6, s7, hs8]
    clear a0 a1 a2 a3 a4 e0 e1 e2 e3 e4 e5 e6 e7
    omega
  have hS : d0 + d1 + d2 + d3 + d4 + d5 + d6 + d7 ≤ 96 := by
    clear a0 a1 a2 a3 a4 e0 e1 e2 e3 e4 e5 e6 e7
    omega
  rw [f0, q1_ad e0 e1 e2 g0 g1 g2, q3_ad a0 a1 a2 a3 b0 b1 b2 b3, eS]
  refine ⟨q4_ad (K := r0 + r1 + r2 + r3 + r4 + r5 + r6 + r7) ?_ hS, ?_, hS⟩
  · clear a0 a1 a2 a3 a4
    omega
  · have h3 : r3 ≤ 202116108 := by
      rw [hz] at a4
      clear a0 a1 a2 a3 e0 e1 e2 e3 e4 e5 e6 e7
      omega
    clear a1 a2 a3 a4 e0 e1 e2 e3 e4 e5 e6 e7
    show n < 1152921504606846976
    omega
theorem dgs_P4 : ∀ m n, dgs 16 6 (2 * m) n → dgs 256 12 m (fP 4 m n) := by
  intro m
  induction m with
  | zero =>
    intro n h
    show (n &&& 0) + (n / 2 ^ 4 &&& 0) = 0
    rw [Nat.and_zero, Nat.and_zero]
  | succ m ih =>
    intro n h
    obtain ⟨h0, h1, h2⟩ : n % 16 ≤ 6 ∧ n / 16 % 16 ≤ 6 ∧ dgs 16 6 (2 * m) (n / 16 / 16) := h
    have e8 : (2 : Nat) ^ (2 * 4) = 256 := by decide
    have e4 : (2 : Nat) ^ 4 = 16 := by decide
    have k := ih _ h2
    have ef : fP 4 (m + 1) n = 256 * fP 4 m (n / 256) + (n % 16 + n / 16 % 16) := by
      have := fP_s 4 m n
      rw [e8, e4] at this
      exact this
    refine ⟨?_, ?_⟩
    · rw [ef]
      omega
    · rw [ef, show (256 * fP 4 m (n / 256) + (n % 16 + n / 16 % 16)) / 256 = fP 4 m (n / 256) by omega, show n / 256 = n / 16 / 16 by omega]
      exact k
theorem dgs_lt : ∀ m n, dgs 16 6 m n → 15 * n + 6 ≤ 6 * 16 ^ m := by
  intro m
  induction m with
  | zero =>
    intro n h
    have : n = 0 := h
    subst this
    decide
  | succ m ih =>
    intro n h
    have k := ih _ h.2
    have h1 : n % 16 ≤ 6 := h.1
    rw [Nat.pow_succ]
    omega
theorem M1e : (6148914691236517205 : Int64) = lN (ev 1 32) := by decide +kernel
theorem M2e : (3689348814741910323 : Int64) = lN (ev 2 16) := by decide +kernel
theorem M3e : (1085102592571150095 : Int64) = lN (ev 4 8) := by decide +kernel
theorem bc1_n {n : Nat} (hn : n < 2 ^ 64) : bc1 (lN n) = lN (fP 1 32 n) := by
  have k := ev_all (t := 1) 32 n (by rw [show ((2 : Nat) ^ (2 * 1)) ^ 32 = 2 ^ 64 by decide]; exact hn)
  have e : n - (n / 2 ^ 1 &&& ev 1 32) = fP 1 32 n := by
    unfold fP
    generalize n / 2 ^ 1 &&& ev 1 32 = X at k ⊢
    generalize n &&& ev 1 32 = Y at k ⊢
    rw [Nat.pow_one] at k
    omega
  have hle : n / 2 ^ 1 &&& ev 1 32 ≤ n := Nat.le_trans Nat.and_le_left (Nat.div_le_self _ _)
  unfold bc1
  rw [show (1 : Int32) = nI 1 from rfl, wb_shr hn (by decide), M1e, wb_and (Nat.lt_of_le_of_lt (Nat.div_le_self _ _) hn) (by decide +kernel), lN_sub hle, e]
theorem bc2_n {n : Nat} (hn : n < 2 ^ 64) : bc2 (lN n) = lN (fP 2 16 n) := by
  unfold bc2
  rw [show (2 : Int32) = nI 2 from rfl, wb_shr hn (by decide), M2e, wb_and hn (by decide +kernel), wb_and (Nat.lt_of_le_of_lt (Nat.div_le_self _ _) hn) (by decide +kernel), lN_add]
  rfl
theorem bc3_n {n : Nat} (hn : n + n / 16 < 2 ^ 64) : bc3 (lN n) = lN ((n + n / 16) &&& ev 4 8) := by
  unfold bc3
  rw [show (4 : Int32) = nI 4 from rfl, wb_shr (by omega) (by decide), show (2 : Nat) ^ 4 = 16 by decide, lN_add, M3e, wb_and hn (by decide +kernel)]
theorem bc4_n {n : Nat} (hn : n < 2 ^ 64) : bc4 (lN n) = lN (n + n / 256) := by
  unfold bc4
  rw [show (8 : Int32) = nI 8 from rfl, wb_shr hn (by decide), lN_add]
theorem bc5_n {n : Nat} (hn : n < 2 ^ 64) : bc5 (lN n) = lN (n + n / 65536) := by
  unfold bc5
  rw [show (16 : Int32) = nI 16 from rfl, wb_shr hn (by decide), lN_add]
theorem bc6_n {n : Nat} (hn : n < 2 ^ 64) : bc6 (lN n) = lN (n + n / 4294967296) := by
  unfold bc6
  rw [show (32 : Int32) = nI 32 from rfl, wb_shr hn (by decide), lN_add]
theorem nI_127 (n : Nat) : nI n &&& 127 = nI (n % 128) := by
  rw [pk_and (nI n) 7 (by decide)]
  have e : (nI n).toBitVec.toNat = n % 2 ^ 32 := BitVec.toNat_ofNat _ _
  rw [e]
  congr 1
  omega
theorem bc_lN {n : Nat} (hn : n < 2 ^ 64) : fJ7_bitCount (lN n) = nI (sd 2 64 n) ∧ sd 2 64 n ≤ 96 := by
  have i1 : fP 1 32 n < 2 ^ 64 := by
    have k := ev_all (t := 1) 32 n (by rw [show ((2 : Nat) ^ (2 * 1)) ^ 32 = 2 ^ 64 by decide]; exact hn)
    unfold fP
    generalize n / 2 ^ 1 &&& ev 1 32 = X at k ⊢
    generalize n &&& ev 1 32 = Y at k ⊢
    rw [Nat.pow_one] at k
    omega
  have g2 : dgs 16 6 16 (fP 2 16 (fP 1 32 n)) := dgs_P (t := 2) (by decide) (by decide) 16 _
  have b2 := dgs_lt _ _ g2
  have e16 : (16 : Nat) ^ 16 = 18446744073709551616 := by decide
  rw [e16] at b2
  have e64 : (2 : Nat) ^ 64 = 18446744073709551616 := by decide
  have a3 : (fP 2 16 (fP 1 32 n) + fP 2 16 (fP 1 32 n) / 16) &&& ev 4 8 = fP 4 8 (fP 2 16 (fP 1 32 n)) := ad16 8 _ g2
  have g3 : dgs 256 12 8 (fP 4 8 (fP 2 16 (fP 1 32 n))) := dgs_P4 8 _ g2
  obtain ⟨q1, q2, q3⟩ := ad256 g3
  have s3 : sd 256 8 (fP 4 8 (fP 2 16 (fP 1 32 n))) = sd 16 16 (fP 2 16 (fP 1 32 n)) := sd_P (t := 4) (by decide) 8 _
  have s2 : sd 16 16 (fP 2 16 (fP 1 32 n)) = sd 4 32 (fP 1 32 n) := sd_P (t := 2) (by decide) 16 _
  have s1 : sd 4 32 (fP 1 32 n) = sd 2 64 n := sd_P (t := 1) (by decide) 32 _
  have e60 : (2 : Nat) ^ 60 = 1152921504606846976 := by decide
  rw [e60] at q2
  unfold fJ7_bitCount
  rw [bc1_n hn, bc2_n i1, bc3_n (by omega), a3, bc4_n (by omega), bc5_n (by omega), bc6_n (by omega), lN_i, nI_127, q1, s3, s2, s1]
  refine ⟨rfl, ?_⟩
  rw [s3, s2, s1] at q3
  exact q3
theorem bc_ex (x : Int64) : ∃ n, n < 2 ^ 64 ∧ x = lN n ∧ fJ7_bitCount x = nI (sd 2 64 n) ∧ pcN x = sd 2 64 n := by
  obtain ⟨n, hn, rfl⟩ := wb_of x
  obtain ⟨h1, h2⟩ := bc_lN hn
  exact ⟨n, hn, rfl, h1, by unfold pcN; rw [h1, nI_clamp (by omega)]⟩
theorem bc_eq (x : Int64) : fJ7_bitCount x = nI (pcN x) := by
  obtain ⟨n, -, -, h1, h2⟩ := bc_ex x
  rw [h2, h1]
end
section
set_option maxHeartbeats 4000000 in
set_option maxRecDepth 100000 in
theorem c_X0_wordAt (l : Launch) (dC : Nat → ClassId) (dI : Nat → Nat → Nat) (A : AdB) (u : StB) {j : Nat} (hj : j < 4) (p0 : Int32) : gMl l yX0_wordAt wX0_wordAt ({ frames := 0, cells := 0, slots := 0, locals := 0 }) (dC, dI) bwCl (tyB A) (wB A) (aB A) [.ref (ar_ A j), .int p0] u (fun r v => r = fX0_wordAt (u.1 j) p0 ∧ u = v) := by
  unfold gMl
  intro sz
  refine Met.ofW (cc := cX0_wordAt) (maxL := 2) (ret := (some .long)) (by decide) rfl ?_
  intro p e s m args below meth c s₁ B hml hv
  obtain ⟨rfl, hsz, hP, hK, hD⟩ := hv
  subst hsz
  have hS : va_S (aB A s.heap.size) s.heap s.heap [] := va_S.rf
  have hx := B.exec
  have hb := B.bytes
  have hr := B.returns
  have hts := atoms_spec (ws := wX0_wordAt) B.pre
  have hw : ∀ w ∈ tg_, w.before _ s = true := fun w h => hts w (List.mem_cons_of_mem _ h)
  have hown : s.vm.findClass RX0 = some m.cls := findClass_of_methodNamed B.named
  have hlocks := B.notSynchronized
  have hl := lv_entry ([.ref (ar_ A j), .int p0]) (n := 2) (Nat.le_of_ble_eq_true rfl)
  rw [lg_entry_eq]
  generalize (lg_sl ([.ref (ar_ A j), .int p0]) ++ List.replicate (2 - (lg_sl ([.ref (ar_ A j), .int p0])).length) Slot.unset).toArray = ls at hl ⊢
  have hl : lv_has ls 2 [(0, .ref (ar_ A j)), (1, .int p0)] := hl
  refine lv_iload_n hx hb dX0_wordAt_0 rfl (lv_at hl 1 rfl) ?_
  refine lv_if_lt (tgt := 19) hx hb dX0_wordAt_1 (by decide) (fun c1 => ?_) (fun c1 => ?_)
  · refine lv_lconst (v := 0) hx hb dX0_wordAt_19 (by decide) ?_
    exact W.lret hx hb hr (fun t9 ht9 hW => ⟨⟨_, u, rfl, ⟨by unfold fX0_wordAt; rw [if_pos c1], rfl⟩, by rw [ht9]; exact hP, va_K.moved hW.alike hK, hD⟩, hS.F ht9⟩) hS.2.2 dX0_wordAt_20
  · refine lv_iload_n hx hb dX0_wordAt_4 rfl (lv_at hl 1 rfl) ?_
    refine lv_bipush (v := 63) hx hb dX0_wordAt_5 (by decide) ?_
    refine lv_icmp_ge (tgt := 19) hx hb dX0_wordAt_7 (by decide) (fun c2 => ?_) (fun c2 => ?_)
    · refine lv_lconst (v := 0) hx hb dX0_wordAt_19 (by decide) ?_
      exact W.lret hx hb hr (fun t9 ht9 hW => ⟨⟨_, u, rfl, ⟨by unfold fX0_wordAt; rw [if_neg c1, if_pos c2], rfl⟩, by rw [ht9]; exact hP, va_K.moved hW.alike hK, hD⟩, hS.F ht9⟩) hS.2.2 dX0_wordAt_20
    · refine lv_aload_n hx hb dX0_wordAt_10 rfl (lv_at hl 0 rfl) ?_
      refine va_get (D := (dC, dI)) (ci := 0) (v := .ref (aw_ A j)) (C := RX0) (T := TX0) (N := 1) hx hb hw igX0 hown hK hP (4 + j) (wB_row A u hj) rfl 0 (by decide) (hw _ tw_22) (fun _ h9 => h9) rfl dX0_wordAt_11 ?_
      refine lv_iload_n hx hb dX0_wordAt_14 rfl (lv_at hl 1 rfl) ?_
      refine va_lald hx hb hK hP (8 + j) (2 + j) (wB_wds A u hj) (tyB_wds A hj) (vp_in_lit rfl c1 c2) dX0_wordAt_15 ?_
      refine lv_goto (tgt := 20) hx hb dX0_wordAt_16 (by decide) ?_
      exact W.lret hx hb hr (fun t9 ht9 hW => ⟨⟨_, u, rfl, ⟨by unfold fX0_wordAt; rw [if_neg c1, if_neg c2], rfl⟩, by rw [ht9]; exact hP, va_K.moved hW.alike hK, hD⟩, hS.F ht9⟩) hS.2.2 dX0_wordAt_20
set_option maxHeartbeats 4000000 in
set_option maxRecDepth 100000 in
theorem c_X0_bit (l : Launch) (dC : Nat → ClassId) (dI : Nat → Nat → Nat) (A : AdB) (u : StB) {j : Nat} (hj : j < 4) (p0 : Int32) : gMi l yX0_bit wX0_bit ({ frames := 1, cells := 0, slots := 0, locals := 21 }) (dC, dI) bwCl (tyB A) (wB A) (aB A) [.ref (ar_ A j), .int p0] u (fun r v => r = fX0_bit (u.1 j) p0 ∧ u = v) := by
  unfold gMi
  intro sz
  refine Met.ofW (cc := cX0_bit) (maxL := 2) (ret := (some .int)) (by decide) rfl ?_
  intro p e s m args below meth c s₁ B hml hv
  obtain ⟨rfl, hsz, hP, hK, hD⟩ := hv
  subst hsz
  have hS : va_S (aB A s.heap.size) s.heap s.heap [] := va_S.rf
  have hx := B.exec
  have hb := B.bytes
  have hr := B.returns
  have hts := atoms_spec (ws := wX0_bit) B.pre
  have hw : ∀ w ∈ tg_, w.before _ s = true := fun w h => hts w (List.mem_cons_of_mem _ h)
  have hown : s.vm.findClass RX0 = some m.cls := findClass_of_methodNamed B.named
  have hlocks := B.notSynchronized
  have hl := lv_entry ([.ref (ar_ A j), .int p0]) (n := 2) (Nat.le_of_ble_eq_true rfl)
  rw [lg_entry_eq]
  generalize (lg_sl ([.ref (ar_ A j), .int p0]) ++ List.replicate (2 - (lg_sl ([.ref (ar_ A j), .int p0])).length) Slot.unset).toArray = ls at hl ⊢
  have hl : lv_has ls 2 [(0, .ref (ar_ A j)), (1, .int p0)] := hl
  refine lv_aload_n hx hb dX0_bit_0 rfl (lv_at hl 0 rfl) ?_
  refine lv_iload_n hx hb dX0_bit_1 rfl (lv_at hl 1 rfl) ?_
  refine lv_bipush (v := 6) hx hb dX0_bit_2 (by decide) ?_
  refine lv_ishr hx hb dX0_bit_4 ?_
  refine gVl (As := [.int (p0 >>> (6 &&& 31))]) (rest := []) ⟨hx, hb, hml, hown, hts⟩ (c_X0_wordAt l dC dI A u hj (p0 >>> (6 &&& 31))) (cwV 1 hts (gi_V hbc tw_65 tw_66 tw_67 tw_2 tw_68) rfl rfl rfl (by decide +kernel) ⟨Nat.le_of_ble_eq_true rfl, Nat.le_of_ble_eq_true rfl⟩) (va_recv hK hP (ci := 0) (q0 := (4 + j)) rfl (wB_row A u hj)) aB_mono aB_D hP hK hD hS rfl hl.1 rfl (Nat.le_of_ble_eq_true rfl) dX0_bit_5 ⟨Nat.le_of_ble_eq_true rfl, Nat.le_of_ble_eq_true rfl⟩ (fun r1 v3 H locs hq2 hP hD hS => ?_)
  obtain ⟨rfl, rfl⟩ := hq2
  refine lv_iload_n hx hb dX0_bit_8 rfl (lv_at hl 1 rfl) ?_
  refine lv_bipush (v := 63) hx hb dX0_bit_9 (by decide) ?_
  refine lv_iand hx hb dX0_bit_11 ?_
  refine lv_lushr hx hb dX0_bit_12 rfl ?_
  refine lv_l2i hx hb dX0_bit_13 rfl ?_
  refine lv_iconst (v := 1) hx hb dX0_bit_14 (by decide) ?_
  refine lv_iand hx hb dX0_bit_15 ?_
  exact W.iret hx hb hr (fun t9 ht9 hW => ⟨⟨_, u, rfl, ⟨rfl, rfl⟩, by rw [ht9]; exact hP, va_K.moved hW.alike hK, hD⟩, hS.F ht9⟩) hS.2.2 dX0_bit_16
set_option maxHeartbeats 4000000 in
set_option maxRecDepth 100000 in
theorem c_X0_bitsFrom (l : Launch) (dC : Nat → ClassId) (dI : Nat → Nat → Nat) (A : AdB) (u : StB) {j : Nat} (hj : j < 4) (p0 : Int32) : gMl l yX0_bitsFrom wX0_bitsFrom ({ frames := 1, cells := 0, slots := 0, locals := 21 }) (dC, dI) bwCl (tyB A) (wB A) (aB A) [.ref (ar_ A j), .int p0] u (fun r v => r = fX0_bitsFrom (u.1 j) p0 ∧ u = v) := by
  unfold gMl
  intro sz
  refine Met.ofW (cc := cX0_bitsFrom) (maxL := 4) (ret := (some .long)) (by decide) rfl ?_
  intro p e s m args below meth c s₁ B hml hv
  obtain ⟨rfl, hsz, hP, hK, hD⟩ := hv
  subst hsz
  have hS : va_S (aB A s.heap.size) s.heap s.heap [] := va_S.rf
  have hx := B.exec
  have hb := B.bytes
  have hr := B.returns
  have hts := atoms_spec (ws := wX0_bitsFrom) B.pre
  have hw : ∀ w ∈ tg_, w.before _ s = true := fun w h => hts w (List.mem_cons_of_mem _ h)
  have hown : s.vm.findClass RX0 = some m.cls := findClass_of_methodNamed B.named
  have hlocks := B.notSynchronized
  have hl := lv_entry ([.ref (ar_ A j), .int p0]) (n := 4) (Nat.le_of_ble_eq_true rfl)
  rw [lg_entry_eq]
  generalize (lg_sl ([.ref (ar_ A j), .int p0]) ++ List.replicate (4 - (lg_sl ([.ref (ar_ A j), .int p0])).length) Slot.unset).toArray = ls at hl ⊢
  have hl : lv_has ls 4 [(0, .ref (ar_ A j)), (1, .int p0)] := hl
  refine lv_iload_n hx hb dX0_bitsFrom_0 rfl (lv_at hl 1 rfl) ?_
  refine lv_bipush (v := 6) hx hb dX0_bitsFrom_1 (by decide) ?_
  refine lv_ishr hx hb dX0_bitsFrom_3 ?_
  refine lv_istore_n (lv' := [(2, .int (p0 >>> (6 &&& 31))), (0, .ref (ar_ A j)), (1, .int p0)]) hx hb dX0_bitsFrom_4 rfl hl (by decide) rfl (fun ls hl => ?_)
  refine lv_iload_n hx hb dX0_bitsFrom_5 rfl (lv_at hl 2 rfl) ?_
  refine lv_bipush (v := 63) hx hb dX0_bitsFrom_6 (by decide) ?_
  refine lv_iand hx hb dX0_bitsFrom_8 ?_
  refine lv_istore_n (lv' := [(3, .int (p0 &&& 63)), (2, .int (p0 >>> (6 &&& 31))), (0, .ref (ar_ A j)), (1, .int p0)]) hx hb dX0_bitsFrom_9 rfl hl (by decide) rfl (fun ls hl => ?_)
  refine lv_iload_n hx hb dX0_bitsFrom_10 rfl (lv_at hl 0 rfl) ?_
  refine lv_if_ne (tgt := 20) hx hb dX0_bitsFrom_11 (by decide) (fun c1 => ?_) (fun c1 => ?_)
  · refine lv_aload_n hx hb dX0_bitsFrom_20 rfl (lv_at hl 2 rfl) ?_
    refine lv_iload_n hx hb dX0_bitsFrom_21 rfl (lv_at hl 1 rfl) ?_
    refine gVl (As := [.int (p0 >>> (6 &&& 31))]) (rest := []) ⟨hx, hb, hml, hown, hts⟩ (c_X0_wordAt l dC dI A u hj (p0 >>> (6 &&& 31))) (cwV 1 hts (gi_V hbc tw_65 tw_66 tw_67 tw_2 tw_68) rfl rfl rfl (by decide +kernel) ⟨Nat.le_of_ble_eq_true rfl, Nat.le_of_ble_eq_true rfl⟩) (va_recv hK hP (ci := 0) (q0 := (4 + j)) rfl (wB_row A u hj)) aB_mono aB_D hP hK hD hS rfl hl.1 rfl (Nat.le_of_ble_eq_true rfl) dX0_bitsFrom_22 ⟨Nat.le_of_ble_eq_true rfl, Nat.le_of_ble_eq_true rfl⟩ (fun r2 v4 H locs hq3 hP hD hS => ?_)
    obtain ⟨rfl, rfl⟩ := hq3
    refine lv_iload_n hx hb dX0_bitsFrom_25 rfl (lv_at hl 0 rfl) ?_
    refine lv_lushr hx hb dX0_bitsFrom_26 rfl ?_
    refine lv_aload_n hx hb dX0_bitsFrom_27 rfl (lv_at hl 2 rfl) ?_
    refine lv_iload_n hx hb dX0_bitsFrom_28 rfl (lv_at hl 1 rfl) ?_
    refine lv_iconst (v := 1) hx hb dX0_bitsFrom_29 (by decide) ?_
    refine lv_iadd hx hb dX0_bitsFrom_30 ?_
    refine gVl (As := [.int ((p0 >>> (6 &&& 31)) + 1)]) (rest := [.long (((fX0_wordAt (u.1 j) (p0 >>> (6 &&& 31))).toUInt64 >>> ((p0 &&& 63).toInt64.toUInt64 &&& Int64.toUInt64 63)).toInt64)]) ⟨hx, hb, hml, hown, hts⟩ (c_X0_wordAt l dC dI A u hj ((p0 >>> (6 &&& 31)) + 1)) (cwV 1 hts (gi_V hbc tw_65 tw_66 tw_67 tw_2 tw_68) rfl rfl rfl (by decide +kernel) ⟨Nat.le_of_ble_eq_true rfl, Nat.le_of_ble_eq_true rfl⟩) (va_recv hK hP (ci := 0) (q0 := (4 + j)) rfl (wB_row A u hj)) aB_mono aB_D hP hK hD hS rfl hl.1 rfl (Nat.le_of_ble_eq_true rfl) dX0_bitsFrom_31 ⟨Nat.le_of_ble_eq_true rfl, Nat.le_of_ble_eq_true rfl⟩ (fun r5 v7 H locs hq6 hP hD hS => ?_)
    obtain ⟨rfl, rfl⟩ := hq6
    refine lv_bipush (v := 64) hx hb dX0_bitsFrom_34 (by decide) ?_
    refine lv_iload_n hx hb dX0_bitsFrom_36 rfl (lv_at hl 0 rfl) ?_
    refine lv_isub hx hb dX0_bitsFrom_37 ?_
    refine lv_lshl hx hb dX0_bitsFrom_38 rfl ?_
    refine lv_lor hx hb dX0_bitsFrom_39 ?_
    exact W.lret hx hb hr (fun t9 ht9 hW => ⟨⟨_, u, rfl, ⟨by unfold fX0_bitsFrom; rw [if_neg c1], rfl⟩, by rw [ht9]; exact hP, va_K.moved hW.alike hK, hD⟩, hS.F ht9⟩) hS.2.2 dX0_bitsFrom_40
  · refine lv_aload_n hx hb dX0_bitsFrom_14 rfl (lv_at hl 2 rfl) ?_
    refine lv_iload_n hx hb dX0_bitsFrom_15 rfl (lv_at hl 1 rfl) ?_
    refine gVl (As := [.int (p0 >>> (6 &&& 31))]) (rest := []) ⟨hx, hb, hml, hown, hts⟩ (c_X0_wordAt l dC dI A u hj (p0 >>> (6 &&& 31))) (cwV 1 hts (gi_V hbc tw_65 tw_66 tw_67 tw_2 tw_68) rfl rfl rfl (by decide +kernel) ⟨Nat.le_of_ble_eq_true rfl, Nat.le_of_ble_eq_true rfl⟩) (va_recv hK hP (ci := 0) (q0 := (4 + j)) rfl (wB_row A u hj)) aB_mono aB_D hP hK hD hS rfl hl.1 rfl (Nat.le_of_ble_eq_true rfl) dX0_bitsFrom_16 ⟨Nat.le_of_ble_eq_true rfl, Nat.le_of_ble_eq_true rfl⟩ (fun r8 v10 H locs hq9 hP hD hS => ?_)
    obtain ⟨rfl, rfl⟩ := hq9
    exact W.lret hx hb hr (fun t9 ht9 hW => ⟨⟨_, u, rfl, ⟨by unfold fX0_bitsFrom; rw [if_pos c1], rfl⟩, by rw [ht9]; exact hP, va_K.moved hW.alike hK, hD⟩, hS.F ht9⟩) hS.2.2 dX0_bitsFrom_19
set_option maxHeartbeats 4000000 in
set_option maxRecDepth 100000 in
theorem c_X0_ones (l : Launch) (dC : Nat → ClassId) (dI : Nat → Nat → Nat) (A : AdB) (u : StB) {j : Nat} (hj : j < 4) : gMi l yX0_ones wX0_ones ({ frames := 1, cells := 0, slots := 0, locals := 21 }) (dC, dI) bwCl (tyB A) (wB A) (aB A) [.ref (ar_ A j)] u (fun r v => r = fX0_ones (u.1 j) ∧ u = v) := by
  unfold gMi
  intro sz
  refine Met.ofW (cc := cX0_ones) (maxL := 3) (ret := (some .int)) (by decide) rfl ?_
  intro p e s m args below meth c s₁ B hml hv
  obtain ⟨rfl, hsz, hP, hK, hD⟩ := hv
  subst hsz
  have hS : va_S (aB A s.heap.size) s.heap s.heap [] := va_S.rf
  have hx := B.exec
  have hb := B.bytes
  have hr := B.returns
  have hts := atoms_spec (ws := wX0_ones) B.pre
  have hw : ∀ w ∈ tg_, w.before _ s = true := fun w h => hts w (List.mem_cons_of_mem _ h)
  have hown : s.vm.findClass RX0 = some m.cls := findClass_of_methodNamed B.named
  have hlocks := B.notSynchronized
  have hl := lv_entry ([.ref (ar_ A j)]) (n := 3) (Nat.le_of_ble_eq_true rfl)
  rw [lg_entry_eq]
  generalize (lg_sl ([.ref (ar_ A j)]) ++ List.replicate (3 - (lg_sl ([.ref (ar_ A j)])).length) Slot.unset).toArray = ls at hl ⊢
  have hl : lv_has ls 3 [(0, .ref (ar_ A j))] := hl
  refine lv_iconst (v := 0) hx hb dX0_ones_0 (by decide) ?_
  refine lv_istore_n (lv' := [(1, .int 0), (0, .ref (ar_ A j))]) hx hb dX0_ones_1 rfl hl (by decide) rfl (fun ls hl => ?_)
  refine lv_iconst (v := 0) hx hb dX0_ones_2 (by decide) ?_
  refine lv_istore_n (lv' := [(2, .int 0), (1, .int 0), (0, .ref (ar_ A j))]) hx hb dX0_ones_3 rfl hl (by decide) rfl (fun ls hl => ?_)
  have hu_i : u = u := rfl
  refine w_loop (N := 63) (i0 := 0) (fun i H locs ls => va_P (dC, dI) bwCl (wB A u) H ∧ va_D (aB A s.heap.size) (wB A u) ∧ va_S (aB A s.heap.size) s.heap H locs ∧ lv_has ls 3 [(0, .ref (ar_ A j)), (1, .int (sI (bcW (u.1 j)) i)), (2, .int (nI i))]) (by decide) ⟨tr_P hu_i hP, tr_D hu_i hD, hS, lv_sub hl [2, 1, 0] rfl⟩ ?_
  intro i H locs ls hz_i hi_i hI ih_i
  obtain ⟨hP, hD, hS, hl⟩ := hI
  refine lv_iload_n hx hb dX0_ones_4 rfl (lv_at hl 2 rfl) ?_
  refine lv_bipush (v := 63) hx hb dX0_ones_5 (by decide) ?_
  refine lv_icmp_ge (tgt := 28) hx hb dX0_ones_7 (by decide) (fun c1 => ?_) (fun c1 => ?_)
  · obtain rfl : i = 63 := lp_out (n := 63) rfl hi_i (by decide) c1
    refine lv_iload_n hx hb dX0_ones_28 rfl (lv_at hl 1 rfl) ?_
    exact W.iret hx hb hr (fun t9 ht9 hW => ⟨⟨_, u, rfl, ⟨rfl, rfl⟩, by rw [ht9]; exact hP, va_K.moved hW.alike hK, hD⟩, hS.F ht9⟩) hS.2.2 dX0_ones_29
  · have hlt_i : i < 63 := lp_in (n := 63) rfl hi_i c1
    refine lv_iload_n hx hb dX0_ones_10 rfl (lv_at hl 1 rfl) ?_
    refine lv_aload_n hx hb dX0_ones_11 rfl (lv_at hl 0 rfl) ?_
    refine va_get (D := (dC, dI)) (ci := 0) (v := .ref (aw_ A j)) (C := RX0) (T := TX0) (N := 1) hx hb hw igX0 hown hK hP (4 + j) (wB_row A u hj) rfl 0 (by decide) (hw _ tw_22) (fun _ h9 => h9) rfl dX0_ones_12 ?_
    refine lv_iload_n hx hb dX0_ones_15 rfl (lv_at hl 2 rfl) ?_
    refine va_lald hx hb hK hP (8 + j) (2 + j) (wB_wds A u hj) (tyB_wds A hj) (vp_in_nI (by omega) (by omega)) dX0_ones_16 ?_
    rw [nI_clamp (n := i) (by omega)]
    refine vp_callSi (W.runS (As := [.long (u.1 j i)]) (rest := [.int (sI (bcW (u.1 j)) i)]) ⟨hx, hb, hml, hown, hts⟩ (c_J7_bitCount l (u.1 j i)) (va_cwS 1 hts (gi_S hbc tw_91 tw_92 tw_5 tw_93) rfl rfl rfl (by decide +kernel) ⟨Nat.le_of_ble_eq_true rfl, Nat.le_of_ble_eq_true rfl⟩) preEq rfl rfl hl.1 rfl (lv_room (Nat.le_of_ble_eq_true rfl)) dX0_ones_17 ⟨Nat.le_of_ble_eq_true rfl, Nat.le_of_ble_eq_true rfl⟩) (fun r hq => ?_)
    subst hq
    refine lv_iadd hx hb dX0_ones_20 ?_
    refine lv_istore_n (lv' := [(1, .int ((sI (bcW (u.1 j)) i) + (fJ7_bitCount (u.1 j i)))), (0, .ref (ar_ A j)), (2, .int (nI i))]) hx hb dX0_ones_21 rfl hl (by decide) rfl (fun ls hl => ?_)
    refine lv_iinc (v := nI (i + 1)) (lv' := [(2, .int (nI (i + 1))), (1, .int ((sI (bcW (u.1 j)) i) + (fJ7_bitCount (u.1 j i)))), (0, .ref (ar_ A j))]) hx hb dX0_ones_22 hl (k := 2) rfl (nI_1 _) (by decide) rfl (fun ls hl => ?_)
    refine lv_goto (tgt := 4) hx hb dX0_ones_25 (by decide) ?_
    have hv_i : u = u := rfl
    exact ih_i _ _ _ (by omega) ⟨tr_P hv_i hP, tr_D hv_i hD, hS, lv_sub hl [2, 1, 0] rfl⟩
set_option maxHeartbeats 4000000 in
set_option maxRecDepth 100000 in
theorem c_X0_change (l : Launch) (dC : Nat → ClassId) (dI : Nat → Nat → Nat) (A : AdB) (u : StB) {j : Nat} (hj : j < 4) (p0 p1 p2 : Int32) : gMv l yX0_change wX0_change ({ frames := 1, cells := 0, slots := 0, locals := 24 }) (dC, dI) bwCl (tyB A) (wB A) (aB A) [.ref (ar_ A j), .int p0, .int p1, .int p2] u (fun v => (upM u.1 j (fl (chW (u.1 j) p0 p1 p2) (u.1 j) 63), u.2) = v) := by
  unfold gMv
  intro sz
  refine Met.ofW (cc := cX0_change) (maxL := 7) (ret := none) (by decide) rfl ?_
  intro p e s m args below meth c s₁ B hml hv
  obtain ⟨rfl, hsz, hP, hK, hD⟩ := hv
  subst hsz
  have hS : va_S (aB A s.heap.size) s.heap s.heap [] := va_S.rf
  have hx := B.exec
  have hb := B.bytes
  have hr := B.returns
  have hts := atoms_spec (ws := wX0_change) B.pre
  have hw : ∀ w ∈ tg_, w.before _ s = true := fun w h => hts w (List.mem_cons_of_mem _ h)
  have hown : s.vm.findClass RX0 = some m.cls := findClass_of_methodNamed B.named
  have hlocks := B.notSynchronized
  have hl := lv_entry ([.ref (ar_ A j), .int p0, .int p1, .int p2]) (n := 7) (Nat.le_of_ble_eq_true rfl)
  rw [lg_entry_eq]
  generalize (lg_sl ([.ref (ar_ A j), .int p0, .int p1, .int p2]) ++ List.replicate (7 - (lg_sl ([.ref (ar_ A j), .int p0, .int p1, .int p2])).length) Slot.unset).toArray = ls at hl ⊢
  have hl : lv_has ls 7 [(0, .ref (ar_ A j)), (1, .int p0), (2, .int p1), (3, .int p2)] := hl
  refine lv_iconst (v := 0) hx hb dX0_change_0 (by decide) ?_
  refine lv_istore (lv' := [(4, .int 0), (0, .ref (ar_ A j)), (1, .int p0), (2, .int p1), (3, .int p2)]) hx hb dX0_change_1 hl (by decide) rfl (fun ls hl => ?_)
  have hu_i : u = (upM u.1 j (fl (chW (u.1 j) p0 p1 p2) (u.1 j) 0), u.2) := fl_u0 _ u j
  refine w_loop (N := 63) (i0 := 0) (fun i H locs ls => va_P (dC, dI) bwCl (wB A (upM u.1 j (fl (chW (u.1 j) p0 p1 p2) (u.1 j) i), u.2)) H ∧ va_D (aB A s.heap.size) (wB A (upM u.1 j (fl (chW (u.1 j) p0 p1 p2) (u.1 j) i), u.2)) ∧ va_S (aB A s.heap.size) s.heap H locs ∧ lv_has ls 7 [(0, .ref (ar_ A j)), (1, .int p0), (2, .int p1), (3, .int p2), (4, .int (nI i))]) (by decide) ⟨tr_P hu_i hP, tr_D hu_i hD, hS, lv_sub hl [1, 2, 3, 4, 0] rfl⟩ ?_
  intro i H locs ls hz_i hi_i hI ih_i
  obtain ⟨hP, hD, hS, hl⟩ := hI
  refine lv_iload hx hb dX0_change_3 (lv_at hl 4 rfl) ?_
  refine lv_bipush (v := 63) hx hb dX0_change_5 (by decide) ?_
  refine lv_icmp_ge (tgt := 63) hx hb dX0_change_7 (by decide) (fun c1 => ?_) (fun c1 => ?_)
  · obtain rfl : i = 63 := lp_out (n := 63) rfl hi_i (by decide) c1
    exact W.vret hx hb hr (fun t9 ht9 hW => ⟨⟨(upM u.1 j (fl (chW (u.1 j) p0 p1 p2) (u.1 j) 63), u.2), rfl, rfl, by rw [ht9]; exact hP, va_K.moved hW.alike hK, hD⟩, hS.F ht9⟩) hS.2.2 dX0_change_63
  · have hlt_i : i < 63 := lp_in (n := 63) rfl hi_i c1
    refine lv_iload_n hx hb dX0_change_10 rfl (lv_at hl 3 rfl) ?_
    refine lv_bipush (v := 64) hx hb dX0_change_11 (by decide) ?_
    refine lv_iload hx hb dX0_change_13 (lv_at hl 4 rfl) ?_
    refine lv_imul hx hb dX0_change_15 ?_
    refine lv_isub hx hb dX0_change_16 ?_
    refine vp_callSl (W.runS (As := [.int (p2 - (64 * (nI i)))]) (rest := []) ⟨hx, hb, hml, hown, hts⟩ (c_X0_lowBits l (p2 - (64 * (nI i)))) (va_cwS 1 hts (gi_S hbc tw_73 tw_74 tw_2 tw_75) rfl rfl rfl (by decide +kernel) ⟨Nat.le_of_ble_eq_true rfl, Nat.le_of_ble_eq_true rfl⟩) preEq rfl rfl hl.1 rfl (lv_room (Nat.le_of_ble_eq_true rfl)) dX0_change_17 ⟨Nat.le_of_ble_eq_true rfl, Nat.le_of_ble_eq_true rfl⟩) (fun r hq => ?_)
    subst hq
    refine lv_iload_n hx hb dX0_change_20 rfl (lv_at hl 2 rfl) ?_
    refine lv_bipush (v := 64) hx hb dX0_change_21 (by decide) ?_
    refine lv_iload hx hb dX0_change_23 (lv_at hl 4 rfl) ?_
    refine lv_imul hx hb dX0_change_25 ?_
    refine lv_isub hx hb dX0_change_26 ?_
    refine vp_callSl (W.runS (As := [.int (p1 - (64 * (nI i)))]) (rest := [.long (fX0_lowBits (p2 - (64 * (nI i))))]) ⟨hx, hb, hml, hown, hts⟩ (c_X0_lowBits l (p1 - (64 * (nI i)))) (va_cwS 1 hts (gi_S hbc tw_73 tw_74 tw_2 tw_75) rfl rfl rfl (by decide +kernel) ⟨Nat.le_of_ble_eq_true rfl, Nat.le_of_ble_eq_true rfl⟩) preEq rfl rfl hl.1 rfl (lv_room (Nat.le_of_ble_eq_true rfl)) dX0_change_27 ⟨Nat.le_of_ble_eq_true rfl, Nat.le_of_ble_eq_true rfl⟩) (fun r hq => ?_)
    subst hq
    refine lv_ldc2 (v := (-1)) hx hb hown (hw _ tw_76) dX0_change_30 ?_
    refine lv_lxor hx hb dX0_change_33 ?_
    refine lv_land hx hb dX0_change_34 ?_
    refine lv_lstore (lv' := [(5, .long ((fX0_lowBits (p2 - (64 * (nI i)))) &&& ((fX0_lowBits (p1 - (64 * (nI i)))) ^^^ (-1)))), (0, .ref (ar_ A j)), (1, .int p0), (2, .int p1), (3, .int p2), (4, .int (nI i))]) hx hb dX0_change_35 hl (by decide) rfl (fun ls hl => ?_)
    refine lv_aload_n hx hb dX0_change_37 rfl (lv_at hl 1 rfl) ?_
    refine va_get (D := (dC, dI)) (ci := 0) (v := .ref (aw_ A j)) (C := RX0) (T := TX0) (N := 1) hx hb hw igX0 hown hK hP (4 + j) (wB_row A (upM u.1 j (fl (chW (u.1 j) p0 p1 p2) (u.1 j) i), u.2) hj) rfl 0 (by decide) (hw _ tw_22) (fun _ h9 => h9) rfl dX0_change_38 ?_
    refine lv_iload hx hb dX0_change_41 (lv_at hl 5 rfl) ?_
    refine lv_aload_n hx hb dX0_change_43 rfl (lv_at hl 1 rfl) ?_
    refine va_get (D := (dC, dI)) (ci := 0) (v := .ref (aw_ A j)) (C := RX0) (T := TX0) (N := 1) hx hb hw igX0 hown hK hP (4 + j) (wB_row A (upM u.1 j (fl (chW (u.1 j) p0 p1 p2) (u.1 j) i), u.2) hj) rfl 0 (by decide) (hw _ tw_22) (fun _ h9 => h9) rfl dX0_change_44 ?_
    refine lv_iload hx hb dX0_change_47 (lv_at hl 5 rfl) ?_
    refine va_lald hx hb hK hP (8 + j) (2 + j) (wB_wds A (upM u.1 j (fl (chW (u.1 j) p0 p1 p2) (u.1 j) i), u.2) hj) (tyB_wds A hj) (vp_in_nI (by omega) (by omega)) dX0_change_49 ?_
    rw [nI_clamp (n := i) (by omega)]
    refine lv_iload_n hx hb dX0_change_50 rfl (lv_at hl 2 rfl) ?_
    refine lv_lload hx hb dX0_change_51 (lv_at hl 0 rfl) ?_
    refine vp_callSl (W.runS (As := [.long ((upM u.1 j (fl (chW (u.1 j) p0 p1 p2) (u.1 j) i), u.2).1 j i), .int p0, .long ((fX0_lowBits (p2 - (64 * (nI i)))) &&& ((fX0_lowBits (p1 - (64 * (nI i)))) ^^^ (-1)))]) (rest := [.int (nI i), .ref (aw_ A j)]) ⟨hx, hb, hml, hown, hts⟩ (c_X0_changed l ((upM u.1 j (fl (chW (u.1 j) p0 p1 p2) (u.1 j) i), u.2).1 j i) p0 ((fX0_lowBits (p2 - (64 * (nI i)))) &&& ((fX0_lowBits (p1 - (64 * (nI i)))) ^^^ (-1)))) (va_cwS 3 hts (gi_S hbc tw_77 tw_78 tw_2 tw_79) rfl rfl rfl (by decide +kernel) ⟨Nat.le_of_ble_eq_true rfl, Nat.le_of_ble_eq_true rfl⟩) preEq rfl rfl hl.1 rfl (lv_room (Nat.le_of_ble_eq_true rfl)) dX0_change_53 ⟨Nat.le_of_ble_eq_true rfl, Nat.le_of_ble_eq_true rfl⟩) (fun r hq => ?_)
    subst hq
    refine va_last hx hb hK hP hD hS (8 + j) (2 + j) (wB_wds A (upM u.1 j (fl (chW (u.1 j) p0 p1 p2) (u.1 j) i), u.2) hj) (tyB_wds A hj) (vp_in_nI (by omega) (by omega)) dX0_change_56 (fun H locs hP hD hS => ?_)
    rw [nI_clamp (n := i) (by omega)] at hP hD
    have hP : va_P (dC, dI) bwCl (wB A (upM (upM u.1 j (fl (chW (u.1 j) p0 p1 p2) (u.1 j) i), u.2).1 j (vp_updL ((upM u.1 j (fl (chW (u.1 j) p0 p1 p2) (u.1 j) i), u.2).1 j) i (fX0_changed ((upM u.1 j (fl (chW (u.1 j) p0 p1 p2) (u.1 j) i), u.2).1 j i) p0 ((fX0_lowBits (p2 - (64 * (nI i)))) &&& ((fX0_lowBits (p1 - (64 * (nI i)))) ^^^ (-1))))), (upM u.1 j (fl (chW (u.1 j) p0 p1 p2) (u.1 j) i), u.2).2)) H := st_P hj hP
    have hD : va_D (aB A s.heap.size) (wB A (upM (upM u.1 j (fl (chW (u.1 j) p0 p1 p2) (u.1 j) i), u.2).1 j (vp_updL ((upM u.1 j (fl (chW (u.1 j) p0 p1 p2) (u.1 j) i), u.2).1 j) i (fX0_changed ((upM u.1 j (fl (chW (u.1 j) p0 p1 p2) (u.1 j) i), u.2).1 j i) p0 ((fX0_lowBits (p2 - (64 * (nI i)))) &&& ((fX0_lowBits (p1 - (64 * (nI i)))) ^^^ (-1))))), (upM u.1 j (fl (chW (u.1 j) p0 p1 p2) (u.1 j) i), u.2).2)) := st_D hj hD
    refine lv_iinc (v := nI (i + 1)) (lv' := [(4, .int (nI (i + 1))), (5, .long ((fX0_lowBits (p2 - (64 * (nI i)))) &&& ((fX0_lowBits (p1 - (64 * (nI i)))) ^^^ (-1)))), (0, .ref (ar_ A j)), (1, .int p0), (2, .int p1), (3, .int p2)]) hx hb dX0_change_57 hl (k := 5) rfl (nI_1 _) (by decide) rfl (fun ls hl => ?_)
    refine lv_goto (tgt := 3) hx hb dX0_change_60 (by decide) ?_
    have hv_i : (upM (upM u.1 j (fl (chW (u.1 j) p0 p1 p2) (u.1 j) i), u.2).1 j (vp_updL ((upM u.1 j (fl (chW (u.1 j) p0 p1 p2) (u.1 j) i), u.2).1 j) i (fX0_changed ((upM u.1 j (fl (chW (u.1 j) p0 p1 p2) (u.1 j) i), u.2).1 j i) p0 ((fX0_lowBits (p2 - (64 * (nI i)))) &&& ((fX0_lowBits (p1 - (64 * (nI i)))) ^^^ (-1))))), (upM u.1 j (fl (chW (u.1 j) p0 p1 p2) (u.1 j) i), u.2).2) = (upM u.1 j (fl (chW (u.1 j) p0 p1 p2) (u.1 j) (i + 1)), u.2) := fl_uS _ u j i (congrArg (fun x => fX0_changed x p0 (mkC p1 p2 i)) (fl_rd _ u.1 j j (Nat.le_refl i)))
    exact ih_i _ _ _ (by omega) ⟨tr_P hv_i hP, tr_D hv_i hD, hS, lv_sub hl [2, 3, 4, 5, 0] rfl⟩
set_option maxHeartbeats 4000000 in
set_option maxRecDepth 100000 in
theorem c_X0_firstFrom (l : Launch) (dC : Nat → ClassId) (dI : Nat → Nat → Nat) (A : AdB) (u : StB) {j : Nat} (hj : j < 4) (p0 : Int32) (p1 : Int64) : gMi l yX0_firstFrom wX0_firstFrom ({ frames := 2, cells := 0, slots := 0, locals := 43 }) (dC, dI) bwCl (tyB A) (wB A) (aB A) [.ref (ar_ A j), .int p0, .long p1] u (fun r v => pFF (u.1 j) p0 p1 r ∧ u = v) := by
  unfold gMi
  intro sz
  refine Met.ofW (cc := cX0_firstFrom) (maxL := 7) (ret := (some .int)) (by decide) rfl ?_
  intro p e s m args below meth c s₁ B hml hv
  obtain ⟨rfl, hsz, hP, hK, hD⟩ := hv
  subst hsz
  have hS : va_S (aB A s.heap.size) s.heap s.heap [] := va_S.rf
  have hx := B.exec
  have hb := B.bytes
  have hr := B.returns
  have hts := atoms_spec (ws := wX0_firstFrom) B.pre
  have hw : ∀ w ∈ tg_, w.before _ s = true := fun w h => hts w (List.mem_cons_of_mem _ h)
  have hown : s.vm.findClass RX0 = some m.cls := findClass_of_methodNamed B.named
  have hlocks := B.notSynchronized
  have hl := lv_entry ([.ref (ar_ A j), .int p0, .long p1]) (n := 7) (Nat.le_of_ble_eq_true rfl)
  rw [lg_entry_eq]
  generalize (lg_sl ([.ref (ar_ A j), .int p0, .long p1]) ++ List.replicate (7 - (lg_sl ([.ref (ar_ A j), .int p0, .long p1])).length) Slot.unset).toArray = ls at hl ⊢
  have hl : lv_has ls 7 [(0, .ref (ar_ A j)), (1, .int p0), (2, .long p1)] := hl
  refine lv_iconst (v := 0) hx hb dX0_firstFrom_0 (by decide) ?_
  refine lv_istore (lv' := [(4, .int 0), (0, .ref (ar_ A j)), (1, .int p0), (2, .long p1)]) hx hb dX0_firstFrom_1 hl (by decide) rfl (fun ls hl => ?_)
  have hu_i : u = u := rfl
  refine w_loop (N := 63) (i0 := 0) (fun i H locs ls => va_P (dC, dI) bwCl (wB A u) H ∧ va_D (aB A s.heap.size) (wB A u) ∧ va_S (aB A s.heap.size) s.heap H locs ∧ lv_has ls 7 [(0, .ref (ar_ A j)), (1, .int p0), (2, .long p1), (4, .int (nI i))] ∧ (∀ k, k < i → ffW (u.1 j) p0 p1 k = 0)) (by decide) ⟨tr_P hu_i hP, tr_D hu_i hD, hS, lv_sub hl [1, 2, 3, 0] rfl, lt_0⟩ ?_
  intro i H locs ls hz_i hi_i hI ih_i
  obtain ⟨hP, hD, hS, hl, hF_i⟩ := hI
  refine lv_iload hx hb dX0_firstFrom_3 (lv_at hl 3 rfl) ?_
  refine lv_bipush (v := 63) hx hb dX0_firstFrom_5 (by decide) ?_
  refine lv_icmp_ge (tgt := 61) hx hb dX0_firstFrom_7 (by decide) (fun c1 => ?_) (fun c1 => ?_)
  · obtain rfl : i = 63 := lp_out (n := 63) rfl hi_i (by decide) c1
    refine lv_iconst (v := -1) hx hb dX0_firstFrom_61 (by decide) ?_
    exact W.iret hx hb hr (fun t9 ht9 hW => ⟨⟨_, u, rfl, ⟨Or.inr ⟨hF_i, rfl⟩, rfl⟩, by rw [ht9]; exact hP, va_K.moved hW.alike hK, hD⟩, hS.F ht9⟩) hS.2.2 dX0_firstFrom_62
  · have hlt_i : i < 63 := lp_in (n := 63) rfl hi_i c1
    refine lv_aload_n hx hb dX0_firstFrom_10 rfl (lv_at hl 0 rfl) ?_
    refine va_get (D := (dC, dI)) (ci := 0) (v := .ref (aw_ A j)) (C := RX0) (T := TX0) (N := 1) hx hb hw igX0 hown hK hP (4 + j) (wB_row A u hj) rfl 0 (by decide) (hw _ tw_22) (fun _ h9 => h9) rfl dX0_firstFrom_11 ?_
    refine lv_iload hx hb dX0_firstFrom_14 (lv_at hl 3 rfl) ?_
    refine va_lald hx hb hK hP (8 + j) (2 + j) (wB_wds A u hj) (tyB_wds A hj) (vp_in_nI (by omega) (by omega)) dX0_firstFrom_16 ?_
    rw [nI_clamp (n := i) (by omega)]
    refine lv_lload_n hx hb dX0_firstFrom_17 rfl (lv_at hl 2 rfl) ?_
    refine lv_lxor hx hb dX0_firstFrom_18 ?_
    refine lv_iload_n hx hb dX0_firstFrom_19 rfl (lv_at hl 1 rfl) ?_
    refine lv_bipush (v := 64) hx hb dX0_firstFrom_20 (by decide) ?_
    refine lv_iload hx hb dX0_firstFrom_22 (lv_at hl 3 rfl) ?_
    refine lv_imul hx hb dX0_firstFrom_24 ?_
    refine lv_isub hx hb dX0_firstFrom_25 ?_
    refine vp_callSl (W.runS (As := [.int (p0 - (64 * (nI i)))]) (rest := [.long ((u.1 j i) ^^^ p1)]) ⟨hx, hb, hml, hown, hts⟩ (c_X0_lowBits l (p0 - (64 * (nI i)))) (va_cwS 1 hts (gi_S hbc tw_73 tw_74 tw_2 tw_75) rfl rfl rfl (by decide +kernel) ⟨Nat.le_of_ble_eq_true rfl, Nat.le_of_ble_eq_true rfl⟩) preEq rfl rfl hl.1 rfl (lv_room (Nat.le_of_ble_eq_true rfl)) dX0_firstFrom_26 ⟨Nat.le_of_ble_eq_true rfl, Nat.le_of_ble_eq_true rfl⟩) (fun r hq => ?_)
    subst hq
    refine lv_ldc2 (v := (-1)) hx hb hown (hw _ tw_76) dX0_firstFrom_29 ?_
    refine lv_lxor hx hb dX0_firstFrom_32 ?_
    refine lv_land hx hb dX0_firstFrom_33 ?_
    refine lv_lstore (lv' := [(5, .long (((u.1 j i) ^^^ p1) &&& ((fX0_lowBits (p0 - (64 * (nI i)))) ^^^ (-1)))), (0, .ref (ar_ A j)), (1, .int p0), (2, .long p1), (4, .int (nI i))]) hx hb dX0_firstFrom_34 hl (by decide) rfl (fun ls hl => ?_)
    refine lv_lload hx hb dX0_firstFrom_36 (lv_at hl 0 rfl) ?_
    refine lv_lconst (v := 0) hx hb dX0_firstFrom_38 (by decide) ?_
    refine W.lcmp hx hb dX0_firstFrom_39 ?_
    refine lv_if_eq (tgt := 55) hx hb dX0_firstFrom_40 (by decide) (fun c2 => ?_) (fun c2 => ?_)
    · refine lv_iinc (v := nI (i + 1)) (lv' := [(4, .int (nI (i + 1))), (5, .long (((u.1 j i) ^^^ p1) &&& ((fX0_lowBits (p0 - (64 * (nI i)))) ^^^ (-1)))), (0, .ref (ar_ A j)), (1, .int p0), (2, .long p1)]) hx hb dX0_firstFrom_55 hl (k := 4) rfl (nI_1 _) (by decide) rfl (fun ls hl => ?_)
      refine lv_goto (tgt := 3) hx hb dX0_firstFrom_58 (by decide) ?_
      have hv_i : u = u := rfl
      exact ih_i _ _ _ (by omega) ⟨tr_P hv_i hP, tr_D hv_i hD, hS, lv_sub hl [2, 3, 4, 0] rfl, lt_s hF_i ((lg_cmp_eq _ _).mp c2)⟩
    · refine lv_bipush (v := 64) hx hb dX0_firstFrom_43 (by decide) ?_
      refine lv_iload hx hb dX0_firstFrom_45 (lv_at hl 4 rfl) ?_
      refine lv_imul hx hb dX0_firstFrom_47 ?_
      refine lv_lload hx hb dX0_firstFrom_48 (lv_at hl 0 rfl) ?_
      refine vp_callSi (W.runS (As := [.long (((u.1 j i) ^^^ p1) &&& ((fX0_lowBits (p0 - (64 * (nI i)))) ^^^ (-1)))]) (rest := [.int (64 * (nI i))]) ⟨hx, hb, hml, hown, hts⟩ (c_J7_numberOfTrailingZeros l (((u.1 j i) ^^^ p1) &&& ((fX0_lowBits (p0 - (64 * (nI i)))) ^^^ (-1)))) (va_cwS 1 hts (gi_S hbc tw_109 tw_110 tw_5 tw_111) rfl rfl rfl (by decide +kernel) ⟨Nat.le_of_ble_eq_true rfl, Nat.le_of_ble_eq_true rfl⟩) preEq rfl rfl hl.1 rfl (lv_room (Nat.le_of_ble_eq_true rfl)) dX0_firstFrom_50 ⟨Nat.le_of_ble_eq_true rfl, Nat.le_of_ble_eq_true rfl⟩) (fun r hq => ?_)
      subst hq
      refine lv_iadd hx hb dX0_firstFrom_53 ?_
      exact W.iret hx hb hr (fun t9 ht9 hW => ⟨⟨_, u, rfl, ⟨Or.inl ⟨i, hlt_i, hF_i, fun h => c2 ((lg_cmp_eq _ _).mpr h), rfl⟩, rfl⟩, by rw [ht9]; exact hP, va_K.moved hW.alike hK, hD⟩, hS.F ht9⟩) hS.2.2 dX0_firstFrom_54
set_option maxHeartbeats 4000000 in
set_option maxRecDepth 100000 in
theorem c_X0_lastUpTo (l : Launch) (dC : Nat → ClassId) (dI : Nat → Nat → Nat) (A : AdB) (u : StB) {j : Nat} (hj : j < 4) (p0 : Int32) (p1 : Int64) : gMi l yX0_lastUpTo wX0_lastUpTo ({ frames := 2, cells := 0, slots := 0, locals := 43 }) (dC, dI) bwCl (tyB A) (wB A) (aB A) [.ref (ar_ A j), .int p0, .long p1] u (fun r v => pLU (u.1 j) p0 p1 r ∧ u = v) := by
  unfold gMi
  intro sz
  refine Met.ofW (cc := cX0_lastUpTo) (maxL := 7) (ret := (some .int)) (by decide) rfl ?_
  intro p e s m args below meth c s₁ B hml hv
  obtain ⟨rfl, hsz, hP, hK, hD⟩ := hv
  subst hsz
  have hS : va_S (aB A s.heap.size) s.heap s.heap [] := va_S.rf
  have hx := B.exec
  have hb := B.bytes
  have hr := B.returns
  have hts := atoms_spec (ws := wX0_lastUpTo) B.pre
  have hw : ∀ w ∈ tg_, w.before _ s = true := fun w h => hts w (List.mem_cons_of_mem _ h)
  have hown : s.vm.findClass RX0 = some m.cls := findClass_of_methodNamed B.named
  have hlocks := B.notSynchronized
  have hl := lv_entry ([.ref (ar_ A j), .int p0, .long p1]) (n := 7) (Nat.le_of_ble_eq_true rfl)
  rw [lg_entry_eq]
  generalize (lg_sl ([.ref (ar_ A j), .int p0, .long p1]) ++ List.replicate (7 - (lg_sl ([.ref (ar_ A j), .int p0, .long p1])).length) Slot.unset).toArray = ls at hl ⊢
  have hl : lv_has ls 7 [(0, .ref (ar_ A j)), (1, .int p0), (2, .long p1)] := hl
  refine lv_bipush (v := 62) hx hb dX0_lastUpTo_0 (by decide) ?_
  refine lv_istore (lv' := [(4, .int 62), (0, .ref (ar_ A j)), (1, .int p0), (2, .long p1)]) hx hb dX0_lastUpTo_2 hl (by decide) rfl (fun ls hl => ?_)
  refine w_loopD (N := 63) (fun i H locs ls => va_P (dC, dI) bwCl (wB A u) H ∧ va_D (aB A s.heap.size) (wB A u) ∧ va_S (aB A s.heap.size) s.heap H locs ∧ lv_has ls 7 [(0, .ref (ar_ A j)), (1, .int p0), (2, .long p1), (4, .int (iD i))] ∧ (∀ k, i ≤ k → k < 63 → luW (u.1 j) p0 p1 k = 0)) ⟨hP, hD, hS, lv_sub hl [1, 2, 3, 0] rfl, fun k h1 h2 => absurd h2 (by omega)⟩ ?_ ?_
  · intro H locs ls hI
    obtain ⟨hP, hD, hS, hl, hF⟩ := hI
    have hl : lv_has ls 7 [(0, .ref (ar_ A j)), (1, .int p0), (2, .long p1), (4, .int (-1))] := hl
    refine lv_iload hx hb dX0_lastUpTo_4 (lv_at hl 3 rfl) ?_
    refine lv_if_lt (tgt := 61) hx hb dX0_lastUpTo_6 (by decide) (fun c1 => ?_) (fun c1 => ?_)
    · refine lv_iconst (v := -1) hx hb dX0_lastUpTo_61 (by decide) ?_
      exact W.iret hx hb hr (fun t9 ht9 hW => ⟨⟨_, u, rfl, ⟨Or.inr ⟨fun k hk => hF k (Nat.zero_le _) hk, rfl⟩, rfl⟩, by rw [ht9]; exact hP, va_K.moved hW.alike hK, hD⟩, hS.F ht9⟩) hS.2.2 dX0_lastUpTo_62
    · exact absurd (by decide) c1
  · intro i H locs ls hlt hI ih
    obtain ⟨hP, hD, hS, hl, hF⟩ := hI
    have hl : lv_has ls 7 [(0, .ref (ar_ A j)), (1, .int p0), (2, .long p1), (4, .int (nI i))] := hl
    refine lv_iload hx hb dX0_lastUpTo_4 (lv_at hl 3 rfl) ?_
    refine lv_if_lt (tgt := 61) hx hb dX0_lastUpTo_6 (by decide) (fun c2 => ?_) (fun c2 => ?_)
    · exact absurd c2 (nI_pos (by omega))
    · refine lv_aload_n hx hb dX0_lastUpTo_9 rfl (lv_at hl 0 rfl) ?_
      refine va_get (D := (dC, dI)) (ci := 0) (v := .ref (aw_ A j)) (C := RX0) (T := TX0) (N := 1) hx hb hw igX0 hown hK hP (4 + j) (wB_row A u hj) rfl 0 (by decide) (hw _ tw_22) (fun _ h9 => h9) rfl dX0_lastUpTo_10 ?_
      refine lv_iload hx hb dX0_lastUpTo_13 (lv_at hl 3 rfl) ?_
      refine va_lald hx hb hK hP (8 + j) (2 + j) (wB_wds A u hj) (tyB_wds A hj) (vp_in_nI (by omega) (by omega)) dX0_lastUpTo_15 ?_
      rw [nI_clamp (n := i) (by omega)]
      refine lv_lload_n hx hb dX0_lastUpTo_16 rfl (lv_at hl 2 rfl) ?_
      refine lv_lxor hx hb dX0_lastUpTo_17 ?_
      refine lv_iload_n hx hb dX0_lastUpTo_18 rfl (lv_at hl 1 rfl) ?_
      refine lv_iconst (v := 1) hx hb dX0_lastUpTo_19 (by decide) ?_
      refine lv_iadd hx hb dX0_lastUpTo_20 ?_
      refine lv_bipush (v := 64) hx hb dX0_lastUpTo_21 (by decide) ?_
      refine lv_iload hx hb dX0_lastUpTo_23 (lv_at hl 3 rfl) ?_
      refine lv_imul hx hb dX0_lastUpTo_25 ?_
      refine lv_isub hx hb dX0_lastUpTo_26 ?_
      refine vp_callSl (W.runS (As := [.int ((p0 + 1) - (64 * (nI i)))]) (rest := [.long ((u.1 j i) ^^^ p1)]) ⟨hx, hb, hml, hown, hts⟩ (c_X0_lowBits l ((p0 + 1) - (64 * (nI i)))) (va_cwS 1 hts (gi_S hbc tw_73 tw_74 tw_2 tw_75) rfl rfl rfl (by decide +kernel) ⟨Nat.le_of_ble_eq_true rfl, Nat.le_of_ble_eq_true rfl⟩) preEq rfl rfl hl.1 rfl (lv_room (Nat.le_of_ble_eq_true rfl)) dX0_lastUpTo_27 ⟨Nat.le_of_ble_eq_true rfl, Nat.le_of_ble_eq_true rfl⟩) (fun r hq => ?_)
      subst hq
      refine lv_land hx hb dX0_lastUpTo_30 ?_
      refine lv_lstore (lv' := [(5, .long (((u.1 j i) ^^^ p1) &&& (fX0_lowBits ((p0 + 1) - (64 * (nI i)))))), (0, .ref (ar_ A j)), (1, .int p0), (2, .long p1), (4, .int (nI i))]) hx hb dX0_lastUpTo_31 hl (by decide) rfl (fun ls hl => ?_)
      refine lv_lload hx hb dX0_lastUpTo_33 (lv_at hl 0 rfl) ?_
      refine lv_lconst (v := 0) hx hb dX0_lastUpTo_35 (by decide) ?_
      refine W.lcmp hx hb dX0_lastUpTo_36 ?_
      refine lv_if_eq (tgt := 55) hx hb dX0_lastUpTo_37 (by decide) (fun c3 => ?_) (fun c3 => ?_)
      · refine lv_iinc (v := iD i) (lv' := [(4, .int (iD i)), (5, .long (((u.1 j i) ^^^ p1) &&& (fX0_lowBits ((p0 + 1) - (64 * (nI i)))))), (0, .ref (ar_ A j)), (1, .int p0), (2, .long p1)]) hx hb dX0_lastUpTo_55 hl (k := 4) rfl (iD_m1 _) (by decide) rfl (fun ls hl => ?_)
        refine lv_goto (tgt := 4) hx hb dX0_lastUpTo_58 (by decide) ?_
        exact ih _ _ _ ⟨hP, hD, hS, lv_sub hl [2, 3, 4, 0] rfl, lu_s hF ((lg_cmp_eq _ _).mp c3)⟩
      · refine lv_bipush (v := 64) hx hb dX0_lastUpTo_40 (by decide) ?_
        refine lv_iload hx hb dX0_lastUpTo_42 (lv_at hl 4 rfl) ?_
        refine lv_imul hx hb dX0_lastUpTo_44 ?_
        refine lv_bipush (v := 63) hx hb dX0_lastUpTo_45 (by decide) ?_
        refine lv_iadd hx hb dX0_lastUpTo_47 ?_
        refine lv_lload hx hb dX0_lastUpTo_48 (lv_at hl 0 rfl) ?_
        refine vp_callSi (W.runS (As := [.long (((u.1 j i) ^^^ p1) &&& (fX0_lowBits ((p0 + 1) - (64 * (nI i)))))]) (rest := [.int ((64 * (nI i)) + 63)]) ⟨hx, hb, hml, hown, hts⟩ (c_J7_numberOfLeadingZeros l (((u.1 j i) ^^^ p1) &&& (fX0_lowBits ((p0 + 1) - (64 * (nI i)))))) (va_cwS 1 hts (gi_S hbc tw_121 tw_122 tw_5 tw_123) rfl rfl rfl (by decide +kernel) ⟨Nat.le_of_ble_eq_true rfl, Nat.le_of_ble_eq_true rfl⟩) preEq rfl rfl hl.1 rfl (lv_room (Nat.le_of_ble_eq_true rfl)) dX0_lastUpTo_50 ⟨Nat.le_of_ble_eq_true rfl, Nat.le_of_ble_eq_true rfl⟩) (fun r hq => ?_)
        subst hq
        refine lv_isub hx hb dX0_lastUpTo_53 ?_
        exact W.iret hx hb hr (fun t9 ht9 hW => ⟨⟨_, u, rfl, ⟨Or.inl ⟨i, hlt, fun k h1 h2 => hF k h1 h2, fun h => c3 ((lg_cmp_eq _ _).mpr h), rfl⟩, rfl⟩, by rw [ht9]; exact hP, va_K.moved hW.alike hK, hD⟩, hS.F ht9⟩) hS.2.2 dX0_lastUpTo_54
set_option maxHeartbeats 4000000 in
set_option maxRecDepth 100000 in
theorem c_X0_end (l : Launch) (dC : Nat → ClassId) (dI : Nat → Nat → Nat) (A : AdB) (u : StB) {j : Nat} (hj : j < 4) : gMi l yX0_end wX0_end ({ frames := 3, cells := 0, slots := 0, locals := 69 }) (dC, dI) bwCl (tyB A) (wB A) (aB A) [.ref (ar_ A j)] u (fun r v => (∃ q, pLU (u.1 j) 4000 0 q ∧ r = q + 1) ∧ u = v) := by
  unfold gMi
  intro sz
  refine Met.ofW (cc := cX0_end) (maxL := 1) (ret := (some .int)) (by decide) rfl ?_
  intro p e s m args below meth c s₁ B hml hv
  obtain ⟨rfl, hsz, hP, hK, hD⟩ := hv
  subst hsz
  have hS : va_S (aB A s.heap.size) s.heap s.heap [] := va_S.rf
  have hx := B.exec
  have hb := B.bytes
  have hr := B.returns
  have hts := atoms_spec (ws := wX0_end) B.pre
  have hw : ∀ w ∈ tg_, w.before _ s = true := fun w h => hts w (List.mem_cons_of_mem _ h)
  have hown : s.vm.findClass RX0 = some m.cls := findClass_of_methodNamed B.named
  have hlocks := B.notSynchronized
  have hl := lv_entry ([.ref (ar_ A j)]) (n := 1) (Nat.le_of_ble_eq_true rfl)
  rw [lg_entry_eq]
  generalize (lg_sl ([.ref (ar_ A j)]) ++ List.replicate (1 - (lg_sl ([.ref (ar_ A j)])).length) Slot.unset).toArray = ls at hl ⊢
  have hl : lv_has ls 1 [(0, .ref (ar_ A j))] := hl
  refine lv_aload_n hx hb dX0_end_0 rfl (lv_at hl 0 rfl) ?_
  refine lv_sipush (v := 4000) hx hb dX0_end_1 (by decide) ?_
  refine lv_lconst (v := 0) hx hb dX0_end_4 (by decide) ?_
  refine gVi (As := [.int 4000, .long 0]) (rest := []) ⟨hx, hb, hml, hown, hts⟩ (c_X0_lastUpTo l dC dI A u hj 4000 0) (cwV 2 hts (gi_V hbc tw_162 tw_118 tw_119 tw_2 tw_120) rfl rfl rfl (by decide +kernel) ⟨Nat.le_of_ble_eq_true rfl, Nat.le_of_ble_eq_true rfl⟩) (va_recv hK hP (ci := 0) (q0 := (4 + j)) rfl (wB_row A u hj)) aB_mono aB_D hP hK hD hS rfl hl.1 rfl (Nat.le_of_ble_eq_true rfl) dX0_end_5 ⟨Nat.le_of_ble_eq_true rfl, Nat.le_of_ble_eq_true rfl⟩ (fun r1 v3 H locs hq2 hP hD hS => ?_)
  obtain ⟨hq2, rfl⟩ := hq2
  refine lv_iconst (v := 1) hx hb dX0_end_8 (by decide) ?_
  refine lv_iadd hx hb dX0_end_9 ?_
  exact W.iret hx hb hr (fun t9 ht9 hW => ⟨⟨_, u, rfl, ⟨⟨_, hq2, rfl⟩, rfl⟩, by rw [ht9]; exact hP, va_K.moved hW.alike hK, hD⟩, hS.F ht9⟩) hS.2.2 dX0_end_10
set_option maxHeartbeats 4000000 in
set_option maxRecDepth 100000 in
theorem c_X0_combine (l : Launch) (dC : Nat → ClassId) (dI : Nat → Nat → Nat) (A : AdB) (u : StB) {j o : Nat} (hj : j < 4) (ho : o < 4) (p0 : Int32) : gMv l yX0_combine wX0_combine ({ frames := 1, cells := 0, slots := 0, locals := 24 }) (dC, dI) bwCl (tyB A) (wB A) (aB A) [.ref (ar_ A j), .int p0, .ref (ar_ A o)] u (fun v => (upM u.1 j (fl (cbW (u.1 j) (u.1 o) p0) (u.1 j) 63), u.2) = v) := by
  unfold gMv
  intro sz
  refine Met.ofW (cc := cX0_combine) (maxL := 4) (ret := none) (by decide) rfl ?_
  intro p e s m args below meth c s₁ B hml hv
  obtain ⟨rfl, hsz, hP, hK, hD⟩ := hv
  subst hsz
  have hS : va_S (aB A s.heap.size) s.heap s.heap [] := va_S.rf
  have hx := B.exec
  have hb := B.bytes
  have hr := B.returns
  have hts := atoms_spec (ws := wX0_combine) B.pre
  have hw : ∀ w ∈ tg_, w.before _ s = true := fun w h => hts w (List.mem_cons_of_mem _ h)
  have hown : s.vm.findClass RX0 = some m.cls := findClass_of_methodNamed B.named
  have hlocks := B.notSynchronized
  have hl := lv_entry ([.ref (ar_ A j), .int p0, .ref (ar_ A o)]) (n := 4) (Nat.le_of_ble_eq_true rfl)
  rw [lg_entry_eq]
  generalize (lg_sl ([.ref (ar_ A j), .int p0, .ref (ar_ A o)]) ++ List.replicate (4 - (lg_sl ([.ref (ar_ A j), .int p0, .ref (ar_ A o)])).length) Slot.unset).toArray = ls at hl ⊢
  have hl : lv_has ls 4 [(0, .ref (ar_ A j)), (1, .int p0), (2, .ref (ar_ A o))] := hl
  refine lv_iconst (v := 0) hx hb dX0_combine_0 (by decide) ?_
  refine lv_istore_n (lv' := [(3, .int 0), (0, .ref (ar_ A j)), (1, .int p0), (2, .ref (ar_ A o))]) hx hb dX0_combine_1 rfl hl (by decide) rfl (fun ls hl => ?_)
  have hu_i : u = (upM u.1 j (fl (cbW (u.1 j) (u.1 o) p0) (u.1 j) 0), u.2) := fl_u0 _ u j
  refine w_loop (N := 63) (i0 := 0) (fun i H locs ls => va_P (dC, dI) bwCl (wB A (upM u.1 j (fl (cbW (u.1 j) (u.1 o) p0) (u.1 j) i), u.2)) H ∧ va_D (aB A s.heap.size) (wB A (upM u.1 j (fl (cbW (u.1 j) (u.1 o) p0) (u.1 j) i), u.2)) ∧ va_S (aB A s.heap.size) s.heap H locs ∧ lv_has ls 4 [(0, .ref (ar_ A j)), (1, .int p0), (2, .ref (ar_ A o)), (3, .int (nI i))]) (by decide) ⟨tr_P hu_i hP, tr_D hu_i hD, hS, lv_sub hl [1, 2, 3, 0] rfl⟩ ?_
  intro i H locs ls hz_i hi_i hI ih_i
  obtain ⟨hP, hD, hS, hl⟩ := hI
  refine lv_iload_n hx hb dX0_combine_2 rfl (lv_at hl 3 rfl) ?_
  refine lv_bipush (v := 63) hx hb dX0_combine_3 (by decide) ?_
  refine lv_icmp_ge (tgt := 36) hx hb dX0_combine_5 (by decide) (fun c1 => ?_) (fun c1 => ?_)
  · obtain rfl : i = 63 := lp_out (n := 63) rfl hi_i (by decide) c1
    exact W.vret hx hb hr (fun t9 ht9 hW => ⟨⟨(upM u.1 j (fl (cbW (u.1 j) (u.1 o) p0) (u.1 j) 63), u.2), rfl, rfl, by rw [ht9]; exact hP, va_K.moved hW.alike hK, hD⟩, hS.F ht9⟩) hS.2.2 dX0_combine_36
  · have hlt_i : i < 63 := lp_in (n := 63) rfl hi_i c1
    refine lv_aload_n hx hb dX0_combine_8 rfl (lv_at hl 0 rfl) ?_
    refine va_get (D := (dC, dI)) (ci := 0) (v := .ref (aw_ A j)) (C := RX0) (T := TX0) (N := 1) hx hb hw igX0 hown hK hP (4 + j) (wB_row A (upM u.1 j (fl (cbW (u.1 j) (u.1 o) p0) (u.1 j) i), u.2) hj) rfl 0 (by decide) (hw _ tw_22) (fun _ h9 => h9) rfl dX0_combine_9 ?_
    refine lv_iload_n hx hb dX0_combine_12 rfl (lv_at hl 3 rfl) ?_
    refine lv_aload_n hx hb dX0_combine_13 rfl (lv_at hl 0 rfl) ?_
    refine va_get (D := (dC, dI)) (ci := 0) (v := .ref (aw_ A j)) (C := RX0) (T := TX0) (N := 1) hx hb hw igX0 hown hK hP (4 + j) (wB_row A (upM u.1 j (fl (cbW (u.1 j) (u.1 o) p0) (u.1 j) i), u.2) hj) rfl 0 (by decide) (hw _ tw_22) (fun _ h9 => h9) rfl dX0_combine_14 ?_
    refine lv_iload_n hx hb dX0_combine_17 rfl (lv_at hl 3 rfl) ?_
    refine va_lald hx hb hK hP (8 + j) (2 + j) (wB_wds A (upM u.1 j (fl (cbW (u.1 j) (u.1 o) p0) (u.1 j) i), u.2) hj) (tyB_wds A hj) (vp_in_nI (by omega) (by omega)) dX0_combine_18 ?_
    rw [nI_clamp (n := i) (by omega)]
    refine lv_iload_n hx hb dX0_combine_19 rfl (lv_at hl 1 rfl) ?_
    refine lv_aload_n hx hb dX0_combine_20 rfl (lv_at hl 2 rfl) ?_
    refine va_get (D := (dC, dI)) (ci := 0) (v := .ref (aw_ A o)) (C := RX0) (T := TX0) (N := 1) hx hb hw igX0 hown hK hP (4 + o) (wB_row A (upM u.1 j (fl (cbW (u.1 j) (u.1 o) p0) (u.1 j) i), u.2) ho) rfl 0 (by decide) (hw _ tw_22) (fun _ h9 => h9) rfl dX0_combine_21 ?_
    refine lv_iload_n hx hb dX0_combine_24 rfl (lv_at hl 3 rfl) ?_
    refine va_lald hx hb hK hP (8 + o) (2 + o) (wB_wds A (upM u.1 j (fl (cbW (u.1 j) (u.1 o) p0) (u.1 j) i), u.2) ho) (tyB_wds A ho) (vp_in_nI (by omega) (by omega)) dX0_combine_25 ?_
    rw [nI_clamp (n := i) (by omega)]
    refine vp_callSl (W.runS (As := [.long ((upM u.1 j (fl (cbW (u.1 j) (u.1 o) p0) (u.1 j) i), u.2).1 j i), .int p0, .long ((upM u.1 j (fl (cbW (u.1 j) (u.1 o) p0) (u.1 j) i), u.2).1 o i)]) (rest := [.int (nI i), .ref (aw_ A j)]) ⟨hx, hb, hml, hown, hts⟩ (c_X0_combined l ((upM u.1 j (fl (cbW (u.1 j) (u.1 o) p0) (u.1 j) i), u.2).1 j i) p0 ((upM u.1 j (fl (cbW (u.1 j) (u.1 o) p0) (u.1 j) i), u.2).1 o i)) (va_cwS 3 hts (gi_S hbc tw_135 tw_136 tw_2 tw_137) rfl rfl rfl (by decide +kernel) ⟨Nat.le_of_ble_eq_true rfl, Nat.le_of_ble_eq_true rfl⟩) preEq rfl rfl hl.1 rfl (lv_room (Nat.le_of_ble_eq_true rfl)) dX0_combine_26 ⟨Nat.le_of_ble_eq_true rfl, Nat.le_of_ble_eq_true rfl⟩) (fun r hq => ?_)
    subst hq
    refine va_last hx hb hK hP hD hS (8 + j) (2 + j) (wB_wds A (upM u.1 j (fl (cbW (u.1 j) (u.1 o) p0) (u.1 j) i), u.2) hj) (tyB_wds A hj) (vp_in_nI (by omega) (by omega)) dX0_combine_29 (fun H locs hP hD hS => ?_)
    rw [nI_clamp (n := i) (by omega)] at hP hD
    have hP : va_P (dC, dI) bwCl (wB A (upM (upM u.1 j (fl (cbW (u.1 j) (u.1 o) p0) (u.1 j) i), u.2).1 j (vp_updL ((upM u.1 j (fl (cbW (u.1 j) (u.1 o) p0) (u.1 j) i), u.2).1 j) i (fX0_combined ((upM u.1 j (fl (cbW (u.1 j) (u.1 o) p0) (u.1 j) i), u.2).1 j i) p0 ((upM u.1 j (fl (cbW (u.1 j) (u.1 o) p0) (u.1 j) i), u.2).1 o i))), (upM u.1 j (fl (cbW (u.1 j) (u.1 o) p0) (u.1 j) i), u.2).2)) H := st_P hj hP
    have hD : va_D (aB A s.heap.size) (wB A (upM (upM u.1 j (fl (cbW (u.1 j) (u.1 o) p0) (u.1 j) i), u.2).1 j (vp_updL ((upM u.1 j (fl (cbW (u.1 j) (u.1 o) p0) (u.1 j) i), u.2).1 j) i (fX0_combined ((upM u.1 j (fl (cbW (u.1 j) (u.1 o) p0) (u.1 j) i), u.2).1 j i) p0 ((upM u.1 j (fl (cbW (u.1 j) (u.1 o) p0) (u.1 j) i), u.2).1 o i))), (upM u.1 j (fl (cbW (u.1 j) (u.1 o) p0) (u.1 j) i), u.2).2)) := st_D hj hD
    refine lv_iinc (v := nI (i + 1)) (lv' := [(3, .int (nI (i + 1))), (0, .ref (ar_ A j)), (1, .int p0), (2, .ref (ar_ A o))]) hx hb dX0_combine_30 hl (k := 3) rfl (nI_1 _) (by decide) rfl (fun ls hl => ?_)
    refine lv_goto (tgt := 2) hx hb dX0_combine_33 (by decide) ?_
    have hv_i : (upM (upM u.1 j (fl (cbW (u.1 j) (u.1 o) p0) (u.1 j) i), u.2).1 j (vp_updL ((upM u.1 j (fl (cbW (u.1 j) (u.1 o) p0) (u.1 j) i), u.2).1 j) i (fX0_combined ((upM u.1 j (fl (cbW (u.1 j) (u.1 o) p0) (u.1 j) i), u.2).1 j i) p0 ((upM u.1 j (fl (cbW (u.1 j) (u.1 o) p0) (u.1 j) i), u.2).1 o i))), (upM u.1 j (fl (cbW (u.1 j) (u.1 o) p0) (u.1 j) i), u.2).2) = (upM u.1 j (fl (cbW (u.1 j) (u.1 o) p0) (u.1 j) (i + 1)), u.2) := fl_uS _ u j i (congr (congrArg (fun x y => fX0_combined x p0 y) (fl_rd _ u.1 j j (Nat.le_refl i))) (fl_rd _ u.1 j o (Nat.le_refl i)))
    exact ih_i _ _ _ (by omega) ⟨tr_P hv_i hP, tr_D hv_i hD, hS, lv_sub hl [1, 2, 3, 0] rfl⟩
set_option maxHeartbeats 4000000 in
set_option maxRecDepth 100000 in
theorem c_X0_takePiece (l : Launch) (dC : Nat → ClassId) (dI : Nat → Nat → Nat) (A : AdB) (u : StB) {j o : Nat} (hj : j < 4) (ho : o < 4) (p1 p2 : Int32) (hpc : ¬ fX2_isPiece p1 p2 = 0) : gMv l yX0_takePiece wX0_takePiece ({ frames := 2, cells := 0, slots := 0, locals := 44 }) (dC, dI) bwCl (tyB A) (wB A) (aB A) [.ref (ar_ A j), .ref (ar_ A o), .int p1, .int p2] u (fun v => (upM u.1 j (fl (tpW (u.1 o) p1 p2) (u.1 j) 63), u.2) = v) := by
  unfold gMv
  intro sz
  refine Met.ofW (cc := cX0_takePiece) (maxL := 5) (ret := none) (by decide) rfl ?_
  intro p e s m args below meth c s₁ B hml hv
  obtain ⟨rfl, hsz, hP, hK, hD⟩ := hv
  subst hsz
  have hS : va_S (aB A s.heap.size) s.heap s.heap [] := va_S.rf
  have hx := B.exec
  have hb := B.bytes
  have hr := B.returns
  have hts := atoms_spec (ws := wX0_takePiece) B.pre
  have hw : ∀ w ∈ tg_, w.before _ s = true := fun w h => hts w (List.mem_cons_of_mem _ h)
  have hown : s.vm.findClass RX0 = some m.cls := findClass_of_methodNamed B.named
  have hlocks := B.notSynchronized
  have hl := lv_entry ([.ref (ar_ A j), .ref (ar_ A o), .int p1, .int p2]) (n := 5) (Nat.le_of_ble_eq_true rfl)
  rw [lg_entry_eq]
  generalize (lg_sl ([.ref (ar_ A j), .ref (ar_ A o), .int p1, .int p2]) ++ List.replicate (5 - (lg_sl ([.ref (ar_ A j), .ref (ar_ A o), .int p1, .int p2])).length) Slot.unset).toArray = ls at hl ⊢
  have hl : lv_has ls 5 [(0, .ref (ar_ A j)), (1, .ref (ar_ A o)), (2, .int p1), (3, .int p2)] := hl
  refine lv_iconst (v := 0) hx hb dX0_takePiece_0 (by decide) ?_
  refine lv_istore (lv' := [(4, .int 0), (0, .ref (ar_ A j)), (1, .ref (ar_ A o)), (2, .int p1), (3, .int p2)]) hx hb dX0_takePiece_1 hl (by decide) rfl (fun ls hl => ?_)
  have hu_i : u = (upM u.1 j (fl (tpW (u.1 o) p1 p2) (u.1 j) 0), u.2) := fl_u0 _ u j
  refine w_loop (N := 63) (i0 := 0) (fun i H locs ls => va_P (dC, dI) bwCl (wB A (upM u.1 j (fl (tpW (u.1 o) p1 p2) (u.1 j) i), u.2)) H ∧ va_D (aB A s.heap.size) (wB A (upM u.1 j (fl (tpW (u.1 o) p1 p2) (u.1 j) i), u.2)) ∧ va_S (aB A s.heap.size) s.heap H locs ∧ lv_has ls 5 [(0, .ref (ar_ A j)), (1, .ref (ar_ A o)), (2, .int p1), (3, .int p2), (4, .int (nI i))]) (by decide) ⟨tr_P hu_i hP, tr_D hu_i hD, hS, lv_sub hl [1, 2, 3, 4, 0] rfl⟩ ?_
  intro i H locs ls hz_i hi_i hI ih_i
  obtain ⟨hP, hD, hS, hl⟩ := hI
  refine lv_iload hx hb dX0_takePiece_3 (lv_at hl 4 rfl) ?_
  refine lv_bipush (v := 63) hx hb dX0_takePiece_5 (by decide) ?_
  refine lv_icmp_ge (tgt := 47) hx hb dX0_takePiece_7 (by decide) (fun c1 => ?_) (fun c1 => ?_)
  · obtain rfl : i = 63 := lp_out (n := 63) rfl hi_i (by decide) c1
    exact W.vret hx hb hr (fun t9 ht9 hW => ⟨⟨(upM u.1 j (fl (tpW (u.1 o) p1 p2) (u.1 j) 63), u.2), rfl, rfl, by rw [ht9]; exact hP, va_K.moved hW.alike hK, hD⟩, hS.F ht9⟩) hS.2.2 dX0_takePiece_47
  · have hlt_i : i < 63 := lp_in (n := 63) rfl hi_i c1
    refine lv_aload_n hx hb dX0_takePiece_10 rfl (lv_at hl 0 rfl) ?_
    refine va_get (D := (dC, dI)) (ci := 0) (v := .ref (aw_ A j)) (C := RX0) (T := TX0) (N := 1) hx hb hw igX0 hown hK hP (4 + j) (wB_row A (upM u.1 j (fl (tpW (u.1 o) p1 p2) (u.1 j) i), u.2) hj) rfl 0 (by decide) (hw _ tw_22) (fun _ h9 => h9) rfl dX0_takePiece_11 ?_
    refine lv_iload hx hb dX0_takePiece_14 (lv_at hl 4 rfl) ?_
    refine lv_aload_n hx hb dX0_takePiece_16 rfl (lv_at hl 1 rfl) ?_
    refine lv_iload_n hx hb dX0_takePiece_17 rfl (lv_at hl 2 rfl) ?_
    refine lv_bipush (v := 64) hx hb dX0_takePiece_18 (by decide) ?_
    refine lv_iload hx hb dX0_takePiece_20 (lv_at hl 4 rfl) ?_
    refine lv_imul hx hb dX0_takePiece_22 ?_
    refine lv_iadd hx hb dX0_takePiece_23 ?_
    refine gVl (As := [.int (p1 + (64 * (nI i)))]) (rest := [.int (nI i), .ref (aw_ A j)]) ⟨hx, hb, hml, hown, hts⟩ (c_X0_bitsFrom l dC dI A (upM u.1 j (fl (tpW (u.1 o) p1 p2) (u.1 j) i), u.2) ho (p1 + (64 * (nI i)))) (cwV 1 hts (gi_V hbc tw_146 tw_148 ts_0 tw_2 tw_149) rfl rfl rfl (by decide +kernel) ⟨Nat.le_of_ble_eq_true rfl, Nat.le_of_ble_eq_true rfl⟩) (va_recv hK hP (ci := 0) (q0 := (4 + o)) rfl (wB_row A (upM u.1 j (fl (tpW (u.1 o) p1 p2) (u.1 j) i), u.2) ho)) aB_mono aB_D hP hK hD hS rfl hl.1 rfl (Nat.le_of_ble_eq_true rfl) dX0_takePiece_24 ⟨Nat.le_of_ble_eq_true rfl, Nat.le_of_ble_eq_true rfl⟩ (fun r2 v4 H locs hq3 hP hD hS => ?_)
    obtain ⟨rfl, rfl⟩ := hq3
    refine lv_iload_n hx hb dX0_takePiece_27 rfl (lv_at hl 3 rfl) ?_
    refine lv_iload_n hx hb dX0_takePiece_28 rfl (lv_at hl 2 rfl) ?_
    refine lv_isub hx hb dX0_takePiece_29 ?_
    refine lv_bipush (v := 64) hx hb dX0_takePiece_30 (by decide) ?_
    refine lv_iload hx hb dX0_takePiece_32 (lv_at hl 4 rfl) ?_
    refine lv_imul hx hb dX0_takePiece_34 ?_
    refine lv_isub hx hb dX0_takePiece_35 ?_
    refine vp_callSl (W.runS (As := [.int ((p2 - p1) - (64 * (nI i)))]) (rest := [.long (fX0_bitsFrom ((upM u.1 j (fl (tpW (u.1 o) p1 p2) (u.1 j) i), u.2).1 o) (p1 + (64 * (nI i)))), .int (nI i), .ref (aw_ A j)]) ⟨hx, hb, hml, hown, hts⟩ (c_X0_lowBits l ((p2 - p1) - (64 * (nI i)))) (va_cwS 1 hts (gi_S hbc tw_73 tw_74 tw_2 tw_75) rfl rfl rfl (by decide +kernel) ⟨Nat.le_of_ble_eq_true rfl, Nat.le_of_ble_eq_true rfl⟩) preEq rfl rfl hl.1 rfl (lv_room (Nat.le_of_ble_eq_true rfl)) dX0_takePiece_36 ⟨Nat.le_of_ble_eq_true rfl, Nat.le_of_ble_eq_true rfl⟩) (fun r hq => ?_)
    subst hq
    refine lv_land hx hb dX0_takePiece_39 ?_
    refine va_last hx hb hK hP hD hS (8 + j) (2 + j) (wB_wds A (upM u.1 j (fl (tpW (u.1 o) p1 p2) (u.1 j) i), u.2) hj) (tyB_wds A hj) (vp_in_nI (by omega) (by omega)) dX0_takePiece_40 (fun H locs hP hD hS => ?_)
    rw [nI_clamp (n := i) (by omega)] at hP hD
    have hP : va_P (dC, dI) bwCl (wB A (upM (upM u.1 j (fl (tpW (u.1 o) p1 p2) (u.1 j) i), u.2).1 j (vp_updL ((upM u.1 j (fl (tpW (u.1 o) p1 p2) (u.1 j) i), u.2).1 j) i ((fX0_bitsFrom ((upM u.1 j (fl (tpW (u.1 o) p1 p2) (u.1 j) i), u.2).1 o) (p1 + (64 * (nI i)))) &&& (fX0_lowBits ((p2 - p1) - (64 * (nI i)))))), (upM u.1 j (fl (tpW (u.1 o) p1 p2) (u.1 j) i), u.2).2)) H := st_P hj hP
    have hD : va_D (aB A s.heap.size) (wB A (upM (upM u.1 j (fl (tpW (u.1 o) p1 p2) (u.1 j) i), u.2).1 j (vp_updL ((upM u.1 j (fl (tpW (u.1 o) p1 p2) (u.1 j) i), u.2).1 j) i ((fX0_bitsFrom ((upM u.1 j (fl (tpW (u.1 o) p1 p2) (u.1 j) i), u.2).1 o) (p1 + (64 * (nI i)))) &&& (fX0_lowBits ((p2 - p1) - (64 * (nI i)))))), (upM u.1 j (fl (tpW (u.1 o) p1 p2) (u.1 j) i), u.2).2)) := st_D hj hD
    refine lv_iinc (v := nI (i + 1)) (lv' := [(4, .int (nI (i + 1))), (0, .ref (ar_ A j)), (1, .ref (ar_ A o)), (2, .int p1), (3, .int p2)]) hx hb dX0_takePiece_41 hl (k := 4) rfl (nI_1 _) (by decide) rfl (fun ls hl => ?_)
    refine lv_goto (tgt := 3) hx hb dX0_takePiece_44 (by decide) ?_
    have hv_i : (upM (upM u.1 j (fl (tpW (u.1 o) p1 p2) (u.1 j) i), u.2).1 j (vp_updL ((upM u.1 j (fl (tpW (u.1 o) p1 p2) (u.1 j) i), u.2).1 j) i ((fX0_bitsFrom ((upM u.1 j (fl (tpW (u.1 o) p1 p2) (u.1 j) i), u.2).1 o) (p1 + (64 * (nI i)))) &&& (fX0_lowBits ((p2 - p1) - (64 * (nI i)))))), (upM u.1 j (fl (tpW (u.1 o) p1 p2) (u.1 j) i), u.2).2) = (upM u.1 j (fl (tpW (u.1 o) p1 p2) (u.1 j) (i + 1)), u.2) := fl_uS _ u j i (tp_uS u j o i hpc hi_i)
    exact ih_i _ _ _ (by omega) ⟨tr_P hv_i hP, tr_D hv_i hD, hS, lv_sub hl [1, 2, 3, 4, 0] rfl⟩
set_option maxHeartbeats 4000000 in
set_option maxRecDepth 100000 in
theorem c_X0_takeWords (l : Launch) (dC : Nat → ClassId) (dI : Nat → Nat → Nat) (A : AdB) (u : StB) {j : Nat} (hj : j < 4) (p0 p1 p2 : Int64) : gMv l yX0_takeWords wX0_takeWords ({ frames := 0, cells := 0, slots := 0, locals := 0 }) (dC, dI) bwCl (tyB A) (wB A) (aB A) [.ref (ar_ A j), .long p0, .long p1, .long p2] u (fun v => (upM u.1 j (twW (u.1 j) p0 p1 p2), u.2) = v) := by
  unfold gMv
  intro sz
  refine Met.ofW (cc := cX0_takeWords) (maxL := 8) (ret := none) (by decide) rfl ?_
  intro p e s m args below meth c s₁ B hml hv
  obtain ⟨rfl, hsz, hP, hK, hD⟩ := hv
  subst hsz
  have hS : va_S (aB A s.heap.size) s.heap s.heap [] := va_S.rf
  have hx := B.exec
  have hb := B.bytes
  have hr := B.returns
  have hts := atoms_spec (ws := wX0_takeWords) B.pre
  have hw : ∀ w ∈ tg_, w.before _ s = true := fun w h => hts w (List.mem_cons_of_mem _ h)
  have hown : s.vm.findClass RX0 = some m.cls := findClass_of_methodNamed B.named
  have hlocks := B.notSynchronized
  have hl := lv_entry ([.ref (ar_ A j), .long p0, .long p1, .long p2]) (n := 8) (Nat.le_of_ble_eq_true rfl)
  rw [lg_entry_eq]
  generalize (lg_sl ([.ref (ar_ A j), .long p0, .long p1, .long p2]) ++ List.replicate (8 - (lg_sl ([.ref (ar_ A j), .long p0, .long p1, .long p2])).length) Slot.unset).toArray = ls at hl ⊢
  have hl : lv_has ls 8 [(0, .ref (ar_ A j)), (1, .long p0), (3, .long p1), (5, .long p2)] := hl
  refine lv_iconst (v := 3) hx hb dX0_takeWords_0 (by decide) ?_
  refine lv_istore (lv' := [(7, .int 3), (0, .ref (ar_ A j)), (1, .long p0), (3, .long p1), (5, .long p2)]) hx hb dX0_takeWords_1 hl (by decide) rfl (fun ls hl => ?_)
  have hu_i : u = (upM u.1 j (zr (u.1 j) 3), u.2) := zr_u0 u j
  refine w_loop (N := 63) (i0 := 3) (fun i H locs ls => va_P (dC, dI) bwCl (wB A (upM u.1 j (zr (u.1 j) i), u.2)) H ∧ va_D (aB A s.heap.size) (wB A (upM u.1 j (zr (u.1 j) i), u.2)) ∧ va_S (aB A s.heap.size) s.heap H locs ∧ lv_has ls 8 [(0, .ref (ar_ A j)), (1, .long p0), (3, .long p1), (5, .long p2), (7, .int (nI i))]) (by decide) ⟨tr_P hu_i hP, tr_D hu_i hD, hS, lv_sub hl [1, 2, 3, 4, 0] rfl⟩ ?_
  intro i H locs ls hz_i hi_i hI ih_i
  obtain ⟨hP, hD, hS, hl⟩ := hI
  refine lv_iload hx hb dX0_takeWords_3 (lv_at hl 4 rfl) ?_
  refine lv_bipush (v := 63) hx hb dX0_takeWords_5 (by decide) ?_
  refine lv_icmp_ge (tgt := 24) hx hb dX0_takeWords_7 (by decide) (fun c1 => ?_) (fun c1 => ?_)
  · obtain rfl : i = 63 := lp_out (n := 63) rfl hi_i (by decide) c1
    refine lv_aload_n hx hb dX0_takeWords_24 rfl (lv_at hl 0 rfl) ?_
    refine va_get (D := (dC, dI)) (ci := 0) (v := .ref (aw_ A j)) (C := RX0) (T := TX0) (N := 1) hx hb hw igX0 hown hK hP (4 + j) (wB_row A (upM u.1 j (zr (u.1 j) 63), u.2) hj) rfl 0 (by decide) (hw _ tw_22) (fun _ h9 => h9) rfl dX0_takeWords_25 ?_
    refine lv_iconst (v := 0) hx hb dX0_takeWords_28 (by decide) ?_
    refine lv_lload_n hx hb dX0_takeWords_29 rfl (lv_at hl 1 rfl) ?_
    refine va_last hx hb hK hP hD hS (8 + j) (2 + j) (wB_wds A (upM u.1 j (zr (u.1 j) 63), u.2) hj) (tyB_wds A hj) (vp_in_nI (n := 0) (by decide) (by decide)) dX0_takeWords_30 (fun H locs hP hD hS => ?_)
    have hP : va_P (dC, dI) bwCl (wB A (upM (upM u.1 j (zr (u.1 j) 63), u.2).1 j (vp_updL ((upM u.1 j (zr (u.1 j) 63), u.2).1 j) 0 p0), (upM u.1 j (zr (u.1 j) 63), u.2).2)) H := st_P hj hP
    have hD : va_D (aB A s.heap.size) (wB A (upM (upM u.1 j (zr (u.1 j) 63), u.2).1 j (vp_updL ((upM u.1 j (zr (u.1 j) 63), u.2).1 j) 0 p0), (upM u.1 j (zr (u.1 j) 63), u.2).2)) := st_D hj hD
    refine lv_aload_n hx hb dX0_takeWords_31 rfl (lv_at hl 0 rfl) ?_
    refine va_get (D := (dC, dI)) (ci := 0) (v := .ref (aw_ A j)) (C := RX0) (T := TX0) (N := 1) hx hb hw igX0 hown hK hP (4 + j) (wB_row A (upM (upM u.1 j (zr (u.1 j) 63), u.2).1 j (vp_updL ((upM u.1 j (zr (u.1 j) 63), u.2).1 j) 0 p0), (upM u.1 j (zr (u.1 j) 63), u.2).2) hj) rfl 0 (by decide) (hw _ tw_22) (fun _ h9 => h9) rfl dX0_takeWords_32 ?_
    refine lv_iconst (v := 1) hx hb dX0_takeWords_35 (by decide) ?_
    refine lv_lload_n hx hb dX0_takeWords_36 rfl (lv_at hl 2 rfl) ?_
    refine va_last hx hb hK hP hD hS (8 + j) (2 + j) (wB_wds A (upM (upM u.1 j (zr (u.1 j) 63), u.2).1 j (vp_updL ((upM u.1 j (zr (u.1 j) 63), u.2).1 j) 0 p0), (upM u.1 j (zr (u.1 j) 63), u.2).2) hj) (tyB_wds A hj) (vp_in_nI (n := 1) (by decide) (by decide)) dX0_takeWords_37 (fun H locs hP hD hS => ?_)
    have hP : va_P (dC, dI) bwCl (wB A (upM (upM (upM u.1 j (zr (u.1 j) 63), u.2).1 j (vp_updL ((upM u.1 j (zr (u.1 j) 63), u.2).1 j) 0 p0), (upM u.1 j (zr (u.1 j) 63), u.2).2).1 j (vp_updL ((upM (upM u.1 j (zr (u.1 j) 63), u.2).1 j (vp_updL ((upM u.1 j (zr (u.1 j) 63), u.2).1 j) 0 p0), (upM u.1 j (zr (u.1 j) 63), u.2).2).1 j) 1 p1), (upM (upM u.1 j (zr (u.1 j) 63), u.2).1 j (vp_updL ((upM u.1 j (zr (u.1 j) 63), u.2).1 j) 0 p0), (upM u.1 j (zr (u.1 j) 63), u.2).2).2)) H := st_P hj hP
    have hD : va_D (aB A s.heap.size) (wB A (upM (upM (upM u.1 j (zr (u.1 j) 63), u.2).1 j (vp_updL ((upM u.1 j (zr (u.1 j) 63), u.2).1 j) 0 p0), (upM u.1 j (zr (u.1 j) 63), u.2).2).1 j (vp_updL ((upM (upM u.1 j (zr (u.1 j) 63), u.2).1 j (vp_updL ((upM u.1 j (zr (u.1 j) 63), u.2).1 j) 0 p0), (upM u.1 j (zr (u.1 j) 63), u.2).2).1 j) 1 p1), (upM (upM u.1 j (zr (u.1 j) 63), u.2).1 j (vp_updL ((upM u.1 j (zr (u.1 j) 63), u.2).1 j) 0 p0), (upM u.1 j (zr (u.1 j) 63), u.2).2).2)) := st_D hj hD
    refine lv_aload_n hx hb dX0_takeWords_38 rfl (lv_at hl 0 rfl) ?_
    refine va_get (D := (dC, dI)) (ci := 0) (v := .ref (aw_ A j)) (C := RX0) (T := TX0) (N := 1) hx hb hw igX0 hown hK hP (4 + j) (wB_row A (upM (upM (upM u.1 j (zr (u.1 j) 63), u.2).1 j (vp_updL ((upM u.1 j (zr (u.1 j) 63), u.2).1 j) 0 p0), (upM u.1 j (zr (u.1 j) 63), u.2).2).1 j (vp_updL ((upM (upM u.1 j (zr (u.1 j) 63), u.2).1 j (vp_updL ((upM u.1 j (zr (u.1 j) 63), u.2).1 j) 0 p0), (upM u.1 j (zr (u.1 j) 63), u.2).2).1 j) 1 p1), (upM (upM u.1 j (zr (u.1 j) 63), u.2).1 j (vp_updL ((upM u.1 j (zr (u.1 j) 63), u.2).1 j) 0 p0), (upM u.1 j (zr (u.1 j) 63), u.2).2).2) hj) rfl 0 (by decide) (hw _ tw_22) (fun _ h9 => h9) rfl dX0_takeWords_39 ?_
    refine lv_iconst (v := 2) hx hb dX0_takeWords_42 (by decide) ?_
    refine lv_lload hx hb dX0_takeWords_43 (lv_at hl 3 rfl) ?_
    refine va_last hx hb hK hP hD hS (8 + j) (2 + j) (wB_wds A (upM (upM (upM u.1 j (zr (u.1 j) 63), u.2).1 j (vp_updL ((upM u.1 j (zr (u.1 j) 63), u.2).1 j) 0 p0), (upM u.1 j (zr (u.1 j) 63), u.2).2).1 j (vp_updL ((upM (upM u.1 j (zr (u.1 j) 63), u.2).1 j (vp_updL ((upM u.1 j (zr (u.1 j) 63), u.2).1 j) 0 p0), (upM u.1 j (zr (u.1 j) 63), u.2).2).1 j) 1 p1), (upM (upM u.1 j (zr (u.1 j) 63), u.2).1 j (vp_updL ((upM u.1 j (zr (u.1 j) 63), u.2).1 j) 0 p0), (upM u.1 j (zr (u.1 j) 63), u.2).2).2) hj) (tyB_wds A hj) (vp_in_nI (n := 2) (by decide) (by decide)) dX0_takeWords_45 (fun H locs hP hD hS => ?_)
    have hP : va_P (dC, dI) bwCl (wB A (upM (upM (upM (upM u.1 j (zr (u.1 j) 63), u.2).1 j (vp_updL ((upM u.1 j (zr (u.1 j) 63), u.2).1 j) 0 p0), (upM u.1 j (zr (u.1 j) 63), u.2).2).1 j (vp_updL ((upM (upM u.1 j (zr (u.1 j) 63), u.2).1 j (vp_updL ((upM u.1 j (zr (u.1 j) 63), u.2).1 j) 0 p0), (upM u.1 j (zr (u.1 j) 63), u.2).2).1 j) 1 p1), (upM (upM u.1 j (zr (u.1 j) 63), u.2).1 j (vp_updL ((upM u.1 j (zr (u.1 j) 63), u.2).1 j) 0 p0), (upM u.1 j (zr (u.1 j) 63), u.2).2).2).1 j (vp_updL ((upM (upM (upM u.1 j (zr (u.1 j) 63), u.2).1 j (vp_updL ((upM u.1 j (zr (u.1 j) 63), u.2).1 j) 0 p0), (upM u.1 j (zr (u.1 j) 63), u.2).2).1 j (vp_updL ((upM (upM u.1 j (zr (u.1 j) 63), u.2).1 j (vp_updL ((upM u.1 j (zr (u.1 j) 63), u.2).1 j) 0 p0), (upM u.1 j (zr (u.1 j) 63), u.2).2).1 j) 1 p1), (upM (upM u.1 j (zr (u.1 j) 63), u.2).1 j (vp_updL ((upM u.1 j (zr (u.1 j) 63), u.2).1 j) 0 p0), (upM u.1 j (zr (u.1 j) 63), u.2).2).2).1 j) 2 p2), (upM (upM (upM u.1 j (zr (u.1 j) 63), u.2).1 j (vp_updL ((upM u.1 j (zr (u.1 j) 63), u.2).1 j) 0 p0), (upM u.1 j (zr (u.1 j) 63), u.2).2).1 j (vp_updL ((upM (upM u.1 j (zr (u.1 j) 63), u.2).1 j (vp_updL ((upM u.1 j (zr (u.1 j) 63), u.2).1 j) 0 p0), (upM u.1 j (zr (u.1 j) 63), u.2).2).1 j) 1 p1), (upM (upM u.1 j (zr (u.1 j) 63), u.2).1 j (vp_updL ((upM u.1 j (zr (u.1 j) 63), u.2).1 j) 0 p0), (upM u.1 j (zr (u.1 j) 63), u.2).2).2).2)) H := st_P hj hP
    have hD : va_D (aB A s.heap.size) (wB A (upM (upM (upM (upM u.1 j (zr (u.1 j) 63), u.2).1 j (vp_updL ((upM u.1 j (zr (u.1 j) 63), u.2).1 j) 0 p0), (upM u.1 j (zr (u.1 j) 63), u.2).2).1 j (vp_updL ((upM (upM u.1 j (zr (u.1 j) 63), u.2).1 j (vp_updL ((upM u.1 j (zr (u.1 j) 63), u.2).1 j) 0 p0), (upM u.1 j (zr (u.1 j) 63), u.2).2).1 j) 1 p1), (upM (upM u.1 j (zr (u.1 j) 63), u.2).1 j (vp_updL ((upM u.1 j (zr (u.1 j) 63), u.2).1 j) 0 p0), (upM u.1 j (zr (u.1 j) 63), u.2).2).2).1 j (vp_updL ((upM (upM (upM u.1 j (zr (u.1 j) 63), u.2).1 j (vp_updL ((upM u.1 j (zr (u.1 j) 63), u.2).1 j) 0 p0), (upM u.1 j (zr (u.1 j) 63), u.2).2).1 j (vp_updL ((upM (upM u.1 j (zr (u.1 j) 63), u.2).1 j (vp_updL ((upM u.1 j (zr (u.1 j) 63), u.2).1 j) 0 p0), (upM u.1 j (zr (u.1 j) 63), u.2).2).1 j) 1 p1), (upM (upM u.1 j (zr (u.1 j) 63), u.2).1 j (vp_updL ((upM u.1 j (zr (u.1 j) 63), u.2).1 j) 0 p0), (upM u.1 j (zr (u.1 j) 63), u.2).2).2).1 j) 2 p2), (upM (upM (upM u.1 j (zr (u.1 j) 63), u.2).1 j (vp_updL ((upM u.1 j (zr (u.1 j) 63), u.2).1 j) 0 p0), (upM u.1 j (zr (u.1 j) 63), u.2).2).1 j (vp_updL ((upM (upM u.1 j (zr (u.1 j) 63), u.2).1 j (vp_updL ((upM u.1 j (zr (u.1 j) 63), u.2).1 j) 0 p0), (upM u.1 j (zr (u.1 j) 63), u.2).2).1 j) 1 p1), (upM (upM u.1 j (zr (u.1 j) 63), u.2).1 j (vp_updL ((upM u.1 j (zr (u.1 j) 63), u.2).1 j) 0 p0), (upM u.1 j (zr (u.1 j) 63), u.2).2).2).2)) := st_D hj hD
    exact W.vret hx hb hr (fun t9 ht9 hW => ⟨⟨(upM (upM (upM (upM u.1 j (zr (u.1 j) 63), u.2).1 j (vp_updL ((upM u.1 j (zr (u.1 j) 63), u.2).1 j) 0 p0), (upM u.1 j (zr (u.1 j) 63), u.2).2).1 j (vp_updL ((upM (upM u.1 j (zr (u.1 j) 63), u.2).1 j (vp_updL ((upM u.1 j (zr (u.1 j) 63), u.2).1 j) 0 p0), (upM u.1 j (zr (u.1 j) 63), u.2).2).1 j) 1 p1), (upM (upM u.1 j (zr (u.1 j) 63), u.2).1 j (vp_updL ((upM u.1 j (zr (u.1 j) 63), u.2).1 j) 0 p0), (upM u.1 j (zr (u.1 j) 63), u.2).2).2).1 j (vp_updL ((upM (upM (upM u.1 j (zr (u.1 j) 63), u.2).1 j (vp_updL ((upM u.1 j (zr (u.1 j) 63), u.2).1 j) 0 p0), (upM u.1 j (zr (u.1 j) 63), u.2).2).1 j (vp_updL ((upM (upM u.1 j (zr (u.1 j) 63), u.2).1 j (vp_updL ((upM u.1 j (zr (u.1 j) 63), u.2).1 j) 0 p0), (upM u.1 j (zr (u.1 j) 63), u.2).2).1 j) 1 p1), (upM (upM u.1 j (zr (u.1 j) 63), u.2).1 j (vp_updL ((upM u.1 j (zr (u.1 j) 63), u.2).1 j) 0 p0), (upM u.1 j (zr (u.1 j) 63), u.2).2).2).1 j) 2 p2), (upM (upM (upM u.1 j (zr (u.1 j) 63), u.2).1 j (vp_updL ((upM u.1 j (zr (u.1 j) 63), u.2).1 j) 0 p0), (upM u.1 j (zr (u.1 j) 63), u.2).2).1 j (vp_updL ((upM (upM u.1 j (zr (u.1 j) 63), u.2).1 j (vp_updL ((upM u.1 j (zr (u.1 j) 63), u.2).1 j) 0 p0), (upM u.1 j (zr (u.1 j) 63), u.2).2).1 j) 1 p1), (upM (upM u.1 j (zr (u.1 j) 63), u.2).1 j (vp_updL ((upM u.1 j (zr (u.1 j) 63), u.2).1 j) 0 p0), (upM u.1 j (zr (u.1 j) 63), u.2).2).2).2), rfl, (tw_uE u j p0 p1 p2).symm, by rw [ht9]; exact hP, va_K.moved hW.alike hK, hD⟩, hS.F ht9⟩) hS.2.2 dX0_takeWords_46
  · have hlt_i : i < 63 := lp_in (n := 63) rfl hi_i c1
    refine lv_aload_n hx hb dX0_takeWords_10 rfl (lv_at hl 0 rfl) ?_
    refine va_get (D := (dC, dI)) (ci := 0) (v := .ref (aw_ A j)) (C := RX0) (T := TX0) (N := 1) hx hb hw igX0 hown hK hP (4 + j) (wB_row A (upM u.1 j (zr (u.1 j) i), u.2) hj) rfl 0 (by decide) (hw _ tw_22) (fun _ h9 => h9) rfl dX0_takeWords_11 ?_
    refine lv_iload hx hb dX0_takeWords_14 (lv_at hl 4 rfl) ?_
    refine lv_lconst (v := 0) hx hb dX0_takeWords_16 (by decide) ?_
    refine va_last hx hb hK hP hD hS (8 + j) (2 + j) (wB_wds A (upM u.1 j (zr (u.1 j) i), u.2) hj) (tyB_wds A hj) (vp_in_nI (by omega) (by omega)) dX0_takeWords_17 (fun H locs hP hD hS => ?_)
    rw [nI_clamp (n := i) (by omega)] at hP hD
    have hP : va_P (dC, dI) bwCl (wB A (upM (upM u.1 j (zr (u.1 j) i), u.2).1 j (vp_updL ((upM u.1 j (zr (u.1 j) i), u.2).1 j) i 0), (upM u.1 j (zr (u.1 j) i), u.2).2)) H := st_P hj hP
    have hD : va_D (aB A s.heap.size) (wB A (upM (upM u.1 j (zr (u.1 j) i), u.2).1 j (vp_updL ((upM u.1 j (zr (u.1 j) i), u.2).1 j) i 0), (upM u.1 j (zr (u.1 j) i), u.2).2)) := st_D hj hD
    refine lv_iinc (v := nI (i + 1)) (lv' := [(7, .int (nI (i + 1))), (0, .ref (ar_ A j)), (1, .long p0), (3, .long p1), (5, .long p2)]) hx hb dX0_takeWords_18 hl (k := 4) rfl (nI_1 _) (by decide) rfl (fun ls hl => ?_)
    refine lv_goto (tgt := 3) hx hb dX0_takeWords_21 (by decide) ?_
    have hv_i : (upM (upM u.1 j (zr (u.1 j) i), u.2).1 j (vp_updL ((upM u.1 j (zr (u.1 j) i), u.2).1 j) i 0), (upM u.1 j (zr (u.1 j) i), u.2).2) = (upM u.1 j (zr (u.1 j) (i + 1)), u.2) := zr_uS u j i hz_i
    exact ih_i _ _ _ (by omega) ⟨tr_P hv_i hP, tr_D hv_i hD, hS, lv_sub hl [1, 2, 3, 4, 0] rfl⟩
set_option maxHeartbeats 4000000 in
set_option maxRecDepth 100000 in
theorem c_X0_sharesOne (l : Launch) (dC : Nat → ClassId) (dI : Nat → Nat → Nat) (A : AdB) (u : StB) {j o : Nat} (hj : j < 4) (ho : o < 4) : gMi l yX0_sharesOne wX0_sharesOne ({ frames := 0, cells := 0, slots := 0, locals := 0 }) (dC, dI) bwCl (tyB A) (wB A) (aB A) [.ref (ar_ A j), .ref (ar_ A o)] u (fun r v => pSO (u.1 j) (u.1 o) r ∧ u = v) := by
  unfold gMi
  intro sz
  refine Met.ofW (cc := cX0_sharesOne) (maxL := 3) (ret := (some .boolean)) (by decide) rfl ?_
  intro p e s m args below meth c s₁ B hml hv
  obtain ⟨rfl, hsz, hP, hK, hD⟩ := hv
  subst hsz
  have hS : va_S (aB A s.heap.size) s.heap s.heap [] := va_S.rf
  have hx := B.exec
  have hb := B.bytes
  have hr := B.returns
  have hts := atoms_spec (ws := wX0_sharesOne) B.pre
  have hw : ∀ w ∈ tg_, w.before _ s = true := fun w h => hts w (List.mem_cons_of_mem _ h)
  have hown : s.vm.findClass RX0 = some m.cls := findClass_of_methodNamed B.named
  have hlocks := B.notSynchronized
  have hl := lv_entry ([.ref (ar_ A j), .ref (ar_ A o)]) (n := 3) (Nat.le_of_ble_eq_true rfl)
  rw [lg_entry_eq]
  generalize (lg_sl ([.ref (ar_ A j), .ref (ar_ A o)]) ++ List.replicate (3 - (lg_sl ([.ref (ar_ A j), .ref (ar_ A o)])).length) Slot.unset).toArray = ls at hl ⊢
  have hl : lv_has ls 3 [(0, .ref (ar_ A j)), (1, .ref (ar_ A o))] := hl
  refine lv_iconst (v := 0) hx hb dX0_sharesOne_0 (by decide) ?_
  refine lv_istore_n (lv' := [(2, .int 0), (0, .ref (ar_ A j)), (1, .ref (ar_ A o))]) hx hb dX0_sharesOne_1 rfl hl (by decide) rfl (fun ls hl => ?_)
  have hu_i : u = u := rfl
  refine w_loop (N := 63) (i0 := 0) (fun i H locs ls => va_P (dC, dI) bwCl (wB A u) H ∧ va_D (aB A s.heap.size) (wB A u) ∧ va_S (aB A s.heap.size) s.heap H locs ∧ lv_has ls 3 [(0, .ref (ar_ A j)), (1, .ref (ar_ A o)), (2, .int (nI i))] ∧ (∀ k, k < i → u.1 j k &&& u.1 o k = 0)) (by decide) ⟨tr_P hu_i hP, tr_D hu_i hD, hS, lv_sub hl [1, 2, 0] rfl, lt_0⟩ ?_
  intro i H locs ls hz_i hi_i hI ih_i
  obtain ⟨hP, hD, hS, hl, hF_i⟩ := hI
  refine lv_iload_n hx hb dX0_sharesOne_2 rfl (lv_at hl 2 rfl) ?_
  refine lv_bipush (v := 63) hx hb dX0_sharesOne_3 (by decide) ?_
  refine lv_icmp_ge (tgt := 34) hx hb dX0_sharesOne_5 (by decide) (fun c1 => ?_) (fun c1 => ?_)
  · obtain rfl : i = 63 := lp_out (n := 63) rfl hi_i (by decide) c1
    refine lv_iconst (v := 0) hx hb dX0_sharesOne_34 (by decide) ?_
    exact W.zret hx hb hr rfl (fun t9 ht9 hW => ⟨⟨_, u, rfl, ⟨Or.inr ⟨rfl, hF_i⟩, rfl⟩, by rw [ht9]; exact hP, va_K.moved hW.alike hK, hD⟩, hS.F ht9⟩) hS.2.2 dX0_sharesOne_35
  · have hlt_i : i < 63 := lp_in (n := 63) rfl hi_i c1
    refine lv_aload_n hx hb dX0_sharesOne_8 rfl (lv_at hl 0 rfl) ?_
    refine va_get (D := (dC, dI)) (ci := 0) (v := .ref (aw_ A j)) (C := RX0) (T := TX0) (N := 1) hx hb hw igX0 hown hK hP (4 + j) (wB_row A u hj) rfl 0 (by decide) (hw _ tw_22) (fun _ h9 => h9) rfl dX0_sharesOne_9 ?_
    refine lv_iload_n hx hb dX0_sharesOne_12 rfl (lv_at hl 2 rfl) ?_
    refine va_lald hx hb hK hP (8 + j) (2 + j) (wB_wds A u hj) (tyB_wds A hj) (vp_in_nI (by omega) (by omega)) dX0_sharesOne_13 ?_
    rw [nI_clamp (n := i) (by omega)]
    refine lv_aload_n hx hb dX0_sharesOne_14 rfl (lv_at hl 1 rfl) ?_
    refine va_get (D := (dC, dI)) (ci := 0) (v := .ref (aw_ A o)) (C := RX0) (T := TX0) (N := 1) hx hb hw igX0 hown hK hP (4 + o) (wB_row A u ho) rfl 0 (by decide) (hw _ tw_22) (fun _ h9 => h9) rfl dX0_sharesOne_15 ?_
    refine lv_iload_n hx hb dX0_sharesOne_18 rfl (lv_at hl 2 rfl) ?_
    refine va_lald hx hb hK hP (8 + o) (2 + o) (wB_wds A u ho) (tyB_wds A ho) (vp_in_nI (by omega) (by omega)) dX0_sharesOne_19 ?_
    rw [nI_clamp (n := i) (by omega)]
    refine lv_land hx hb dX0_sharesOne_20 ?_
    refine lv_lconst (v := 0) hx hb dX0_sharesOne_21 (by decide) ?_
    refine W.lcmp hx hb dX0_sharesOne_22 ?_
    refine lv_if_eq (tgt := 28) hx hb dX0_sharesOne_23 (by decide) (fun c2 => ?_) (fun c2 => ?_)
    · refine lv_iinc (v := nI (i + 1)) (lv' := [(2, .int (nI (i + 1))), (0, .ref (ar_ A j)), (1, .ref (ar_ A o))]) hx hb dX0_sharesOne_28 hl (k := 2) rfl (nI_1 _) (by decide) rfl (fun ls hl => ?_)
      refine lv_goto (tgt := 2) hx hb dX0_sharesOne_31 (by decide) ?_
      have hv_i : u = u := rfl
      exact ih_i _ _ _ (by omega) ⟨tr_P hv_i hP, tr_D hv_i hD, hS, lv_sub hl [1, 2, 0] rfl, lt_s hF_i ((lg_cmp_eq _ _).mp c2)⟩
    · refine lv_iconst (v := 1) hx hb dX0_sharesOne_26 (by decide) ?_
      exact W.zret hx hb hr rfl (fun t9 ht9 hW => ⟨⟨_, u, rfl, ⟨Or.inl ⟨rfl, i, hlt_i, fun h => c2 ((lg_cmp_eq _ _).mpr h)⟩, rfl⟩, by rw [ht9]; exact hP, va_K.moved hW.alike hK, hD⟩, hS.F ht9⟩) hS.2.2 dX0_sharesOne_27
set_option maxHeartbeats 4000000 in
set_option maxRecDepth 100000 in
theorem c_X0_isSame (l : Launch) (dC : Nat → ClassId) (dI : Nat → Nat → Nat) (A : AdB) (u : StB) {j o : Nat} (hj : j < 4) (ho : o < 4) : gMi l yX0_isSame wX0_isSame ({ frames := 0, cells := 0, slots := 0, locals := 0 }) (dC, dI) bwCl (tyB A) (wB A) (aB A) [.ref (ar_ A j), .ref (ar_ A o)] u (fun r v => pSM (u.1 j) (u.1 o) r ∧ u = v) := by
  unfold gMi
  intro sz
  refine Met.ofW (cc := cX0_isSame) (maxL := 3) (ret := (some .boolean)) (by decide) rfl ?_
  intro p e s m args below meth c s₁ B hml hv
  obtain ⟨rfl, hsz, hP, hK, hD⟩ := hv
  subst hsz
  have hS : va_S (aB A s.heap.size) s.heap s.heap [] := va_S.rf
  have hx := B.exec
  have hb := B.bytes
  have hr := B.returns
  have hts := atoms_spec (ws := wX0_isSame) B.pre
  have hw : ∀ w ∈ tg_, w.before _ s = true := fun w h => hts w (List.mem_cons_of_mem _ h)
  have hown : s.vm.findClass RX0 = some m.cls := findClass_of_methodNamed B.named
  have hlocks := B.notSynchronized
  have hl := lv_entry ([.ref (ar_ A j), .ref (ar_ A o)]) (n := 3) (Nat.le_of_ble_eq_true rfl)
  rw [lg_entry_eq]
  generalize (lg_sl ([.ref (ar_ A j), .ref (ar_ A o)]) ++ List.replicate (3 - (lg_sl ([.ref (ar_ A j), .ref (ar_ A o)])).length) Slot.unset).toArray = ls at hl ⊢
  have hl : lv_has ls 3 [(0, .ref (ar_ A j)), (1, .ref (ar_ A o))] := hl
  refine lv_iconst (v := 0) hx hb dX0_isSame_0 (by decide) ?_
  refine lv_istore_n (lv' := [(2, .int 0), (0, .ref (ar_ A j)), (1, .ref (ar_ A o))]) hx hb dX0_isSame_1 rfl hl (by decide) rfl (fun ls hl => ?_)
  have hu_i : u = u := rfl
  refine w_loop (N := 63) (i0 := 0) (fun i H locs ls => va_P (dC, dI) bwCl (wB A u) H ∧ va_D (aB A s.heap.size) (wB A u) ∧ va_S (aB A s.heap.size) s.heap H locs ∧ lv_has ls 3 [(0, .ref (ar_ A j)), (1, .ref (ar_ A o)), (2, .int (nI i))] ∧ (∀ k, k < i → u.1 j k = u.1 o k)) (by decide) ⟨tr_P hu_i hP, tr_D hu_i hD, hS, lv_sub hl [1, 2, 0] rfl, lt_0⟩ ?_
  intro i H locs ls hz_i hi_i hI ih_i
  obtain ⟨hP, hD, hS, hl, hF_i⟩ := hI
  refine lv_iload_n hx hb dX0_isSame_2 rfl (lv_at hl 2 rfl) ?_
  refine lv_bipush (v := 63) hx hb dX0_isSame_3 (by decide) ?_
  refine lv_icmp_ge (tgt := 32) hx hb dX0_isSame_5 (by decide) (fun c1 => ?_) (fun c1 => ?_)
  · obtain rfl : i = 63 := lp_out (n := 63) rfl hi_i (by decide) c1
    refine lv_iconst (v := 1) hx hb dX0_isSame_32 (by decide) ?_
    exact W.zret hx hb hr rfl (fun t9 ht9 hW => ⟨⟨_, u, rfl, ⟨Or.inr ⟨rfl, hF_i⟩, rfl⟩, by rw [ht9]; exact hP, va_K.moved hW.alike hK, hD⟩, hS.F ht9⟩) hS.2.2 dX0_isSame_33
  · have hlt_i : i < 63 := lp_in (n := 63) rfl hi_i c1
    refine lv_aload_n hx hb dX0_isSame_8 rfl (lv_at hl 0 rfl) ?_
    refine va_get (D := (dC, dI)) (ci := 0) (v := .ref (aw_ A j)) (C := RX0) (T := TX0) (N := 1) hx hb hw igX0 hown hK hP (4 + j) (wB_row A u hj) rfl 0 (by decide) (hw _ tw_22) (fun _ h9 => h9) rfl dX0_isSame_9 ?_
    refine lv_iload_n hx hb dX0_isSame_12 rfl (lv_at hl 2 rfl) ?_
    refine va_lald hx hb hK hP (8 + j) (2 + j) (wB_wds A u hj) (tyB_wds A hj) (vp_in_nI (by omega) (by omega)) dX0_isSame_13 ?_
    rw [nI_clamp (n := i) (by omega)]
    refine lv_aload_n hx hb dX0_isSame_14 rfl (lv_at hl 1 rfl) ?_
    refine va_get (D := (dC, dI)) (ci := 0) (v := .ref (aw_ A o)) (C := RX0) (T := TX0) (N := 1) hx hb hw igX0 hown hK hP (4 + o) (wB_row A u ho) rfl 0 (by decide) (hw _ tw_22) (fun _ h9 => h9) rfl dX0_isSame_15 ?_
    refine lv_iload_n hx hb dX0_isSame_18 rfl (lv_at hl 2 rfl) ?_
    refine va_lald hx hb hK hP (8 + o) (2 + o) (wB_wds A u ho) (tyB_wds A ho) (vp_in_nI (by omega) (by omega)) dX0_isSame_19 ?_
    rw [nI_clamp (n := i) (by omega)]
    refine W.lcmp hx hb dX0_isSame_20 ?_
    refine lv_if_eq (tgt := 26) hx hb dX0_isSame_21 (by decide) (fun c2 => ?_) (fun c2 => ?_)
    · refine lv_iinc (v := nI (i + 1)) (lv' := [(2, .int (nI (i + 1))), (0, .ref (ar_ A j)), (1, .ref (ar_ A o))]) hx hb dX0_isSame_26 hl (k := 2) rfl (nI_1 _) (by decide) rfl (fun ls hl => ?_)
      refine lv_goto (tgt := 2) hx hb dX0_isSame_29 (by decide) ?_
      have hv_i : u = u := rfl
      exact ih_i _ _ _ (by omega) ⟨tr_P hv_i hP, tr_D hv_i hD, hS, lv_sub hl [1, 2, 0] rfl, lt_s hF_i ((lg_cmp_eq _ _).mp c2)⟩
    · refine lv_iconst (v := 0) hx hb dX0_isSame_24 (by decide) ?_
      exact W.zret hx hb hr rfl (fun t9 ht9 hW => ⟨⟨_, u, rfl, ⟨Or.inl ⟨rfl, i, hlt_i, fun h => c2 ((lg_cmp_eq _ _).mpr h)⟩, rfl⟩, by rw [ht9]; exact hP, va_K.moved hW.alike hK, hD⟩, hS.F ht9⟩) hS.2.2 dX0_isSame_25
set_option maxHeartbeats 4000000 in
set_option maxRecDepth 100000 in
theorem c_X0_rankedSum (l : Launch) (dC : Nat → ClassId) (dI : Nat → Nat → Nat) (A : AdB) (u : StB) {j : Nat} (hj : j < 4) : gMl l yX0_rankedSum wX0_rankedSum ({ frames := 2, cells := 0, slots := 0, locals := 43 }) (dC, dI) bwCl (tyB A) (wB A) (aB A) [.ref (ar_ A j)] u (fun r v => r = (rkO (u.1 j) 63).2 ∧ u = v) := by
  unfold gMl
  intro sz
  refine Met.ofW (cc := cX0_rankedSum) (maxL := 9) (ret := (some .long)) (by decide) rfl ?_
  intro p e s m args below meth c s₁ B hml hv
  obtain ⟨rfl, hsz, hP, hK, hD⟩ := hv
  subst hsz
  have hS : va_S (aB A s.heap.size) s.heap s.heap [] := va_S.rf
  have hx := B.exec
  have hb := B.bytes
  have hr := B.returns
  have hts := atoms_spec (ws := wX0_rankedSum) B.pre
  have hw : ∀ w ∈ tg_, w.before _ s = true := fun w h => hts w (List.mem_cons_of_mem _ h)
  have hown : s.vm.findClass RX0 = some m.cls := findClass_of_methodNamed B.named
  have hlocks := B.notSynchronized
  have hl := lv_entry ([.ref (ar_ A j)]) (n := 9) (Nat.le_of_ble_eq_true rfl)
  rw [lg_entry_eq]
  generalize (lg_sl ([.ref (ar_ A j)]) ++ List.replicate (9 - (lg_sl ([.ref (ar_ A j)])).length) Slot.unset).toArray = ls at hl ⊢
  have hl : lv_has ls 9 [(0, .ref (ar_ A j))] := hl
  refine lv_lconst (v := 0) hx hb dX0_rankedSum_0 (by decide) ?_
  refine lv_lstore_n (lv' := [(1, .long 0), (0, .ref (ar_ A j))]) hx hb dX0_rankedSum_1 rfl hl (by decide) rfl (fun ls hl => ?_)
  refine lv_lconst (v := 0) hx hb dX0_rankedSum_2 (by decide) ?_
  refine lv_lstore_n (lv' := [(3, .long 0), (1, .long 0), (0, .ref (ar_ A j))]) hx hb dX0_rankedSum_3 rfl hl (by decide) rfl (fun ls hl => ?_)
  refine lv_iconst (v := 0) hx hb dX0_rankedSum_4 (by decide) ?_
  refine lv_istore (lv' := [(5, .int 0), (3, .long 0), (1, .long 0), (0, .ref (ar_ A j))]) hx hb dX0_rankedSum_5 hl (by decide) rfl (fun ls hl => ?_)
  have hu_i : u = u := rfl
  refine w_loop (N := 63) (i0 := 0) (fun i H locs ls => va_P (dC, dI) bwCl (wB A u) H ∧ va_D (aB A s.heap.size) (wB A u) ∧ va_S (aB A s.heap.size) s.heap H locs ∧ lv_has ls 9 [(0, .ref (ar_ A j)), (1, .long ((rkO (u.1 j) i).2)), (3, .long ((rkO (u.1 j) i).1)), (5, .int (nI i))]) (by decide) ⟨tr_P hu_i hP, tr_D hu_i hD, hS, lv_sub hl [3, 2, 1, 0] rfl⟩ ?_
  intro i H locs ls hz_i hi_i hI ih_i
  obtain ⟨hP, hD, hS, hl⟩ := hI
  refine lv_iload hx hb dX0_rankedSum_7 (lv_at hl 3 rfl) ?_
  refine lv_bipush (v := 63) hx hb dX0_rankedSum_9 (by decide) ?_
  refine lv_icmp_ge (tgt := 77) hx hb dX0_rankedSum_11 (by decide) (fun c1 => ?_) (fun c1 => ?_)
  · obtain rfl : i = 63 := lp_out (n := 63) rfl hi_i (by decide) c1
    refine lv_lload_n hx hb dX0_rankedSum_77 rfl (lv_at hl 1 rfl) ?_
    exact W.lret hx hb hr (fun t9 ht9 hW => ⟨⟨_, u, rfl, ⟨rfl, rfl⟩, by rw [ht9]; exact hP, va_K.moved hW.alike hK, hD⟩, hS.F ht9⟩) hS.2.2 dX0_rankedSum_78
  · have hlt_i : i < 63 := lp_in (n := 63) rfl hi_i c1
    refine lv_aload_n hx hb dX0_rankedSum_14 rfl (lv_at hl 0 rfl) ?_
    refine va_get (D := (dC, dI)) (ci := 0) (v := .ref (aw_ A j)) (C := RX0) (T := TX0) (N := 1) hx hb hw igX0 hown hK hP (4 + j) (wB_row A u hj) rfl 0 (by decide) (hw _ tw_22) (fun _ h9 => h9) rfl dX0_rankedSum_15 ?_
    refine lv_iload hx hb dX0_rankedSum_18 (lv_at hl 3 rfl) ?_
    refine va_lald hx hb hK hP (8 + j) (2 + j) (wB_wds A u hj) (tyB_wds A hj) (vp_in_nI (by omega) (by omega)) dX0_rankedSum_20 ?_
    rw [nI_clamp (n := i) (by omega)]
    refine lv_lstore (lv' := [(6, .long (u.1 j i)), (0, .ref (ar_ A j)), (1, .long ((rkO (u.1 j) i).2)), (3, .long ((rkO (u.1 j) i).1)), (5, .int (nI i))]) hx hb dX0_rankedSum_21 hl (by decide) rfl (fun ls hl => ?_)
    refine lv_lload hx hb dX0_rankedSum_23 (lv_at hl 0 rfl) ?_
    refine vp_callSi (W.runS (As := [.long (u.1 j i)]) (rest := []) ⟨hx, hb, hml, hown, hts⟩ (c_J7_bitCount l (u.1 j i)) (va_cwS 1 hts (gi_S hbc tw_91 tw_92 tw_5 tw_93) rfl rfl rfl (by decide +kernel) ⟨Nat.le_of_ble_eq_true rfl, Nat.le_of_ble_eq_true rfl⟩) preEq rfl rfl hl.1 rfl (lv_room (Nat.le_of_ble_eq_true rfl)) dX0_rankedSum_25 ⟨Nat.le_of_ble_eq_true rfl, Nat.le_of_ble_eq_true rfl⟩) (fun r hq => ?_)
    subst hq
    rw [bc_eq]
    refine lv_istore (lv' := [(8, .int (nI (pcN (u.1 j i)))), (6, .long (u.1 j i)), (0, .ref (ar_ A j)), (1, .long ((rkO (u.1 j) i).2)), (3, .long ((rkO (u.1 j) i).1)), (5, .int (nI i))]) hx hb dX0_rankedSum_28 hl (by decide) rfl (fun ls hl => ?_)
    have hu_k : u = u := rfl
    refine w_loop (N := pcN (u.1 j i)) (i0 := 0) (fun k H locs ls => va_P (dC, dI) bwCl (wB A u) H ∧ va_D (aB A s.heap.size) (wB A u) ∧ va_S (aB A s.heap.size) s.heap H locs ∧ lv_has ls 9 [(0, .ref (ar_ A j)), (1, .long ((rkN i (u.1 j i, rkO (u.1 j) i) k).2.2)), (3, .long ((rkN i (u.1 j i, rkO (u.1 j) i) k).2.1)), (5, .int (nI i)), (6, .long ((rkN i (u.1 j i, rkO (u.1 j) i) k).1)), (8, .int (nI (pcN (u.1 j i) - k)))]) (Nat.zero_le _) ⟨tr_P hu_k hP, tr_D hu_k hD, hS, lv_sub hl [2, 3, 4, 5, 1, 0] rfl⟩ ?_
    intro k H locs ls hz_k hi_k hI ih_k
    obtain ⟨hP, hD, hS, hl⟩ := hI
    refine lv_iload hx hb dX0_rankedSum_30 (lv_at hl 5 rfl) ?_
    refine lv_if_le (tgt := 71) hx hb dX0_rankedSum_32 (by decide) (fun c2 => ?_) (fun c2 => ?_)
    · obtain rfl : k = pcN (u.1 j i) := lp0_out hi_k (pcN_lt _) c2
      refine lv_iinc (v := nI (i + 1)) (lv' := [(5, .int (nI (i + 1))), (0, .ref (ar_ A j)), (1, .long ((rkN i (u.1 j i, rkO (u.1 j) i) (pcN (u.1 j i))).2.2)), (3, .long ((rkN i (u.1 j i, rkO (u.1 j) i) (pcN (u.1 j i))).2.1)), (6, .long ((rkN i (u.1 j i, rkO (u.1 j) i) (pcN (u.1 j i))).1)), (8, .int (nI (pcN (u.1 j i) - (pcN (u.1 j i)))))]) hx hb dX0_rankedSum_71 hl (k := 3) rfl (nI_1 _) (by decide) rfl (fun ls hl => ?_)
      refine lv_goto (tgt := 7) hx hb dX0_rankedSum_74 (by decide) ?_
      have hv_i : u = u := rfl
      exact ih_i _ _ _ (by omega) ⟨tr_P hv_i hP, tr_D hv_i hD, hS, lv_sub hl [1, 2, 3, 0] rfl⟩
    · have hlt_k : k < pcN (u.1 j i) := lp0_in hi_k c2
      refine lv_lload_n hx hb dX0_rankedSum_35 rfl (lv_at hl 2 rfl) ?_
      refine lv_lconst (v := 1) hx hb dX0_rankedSum_36 (by decide) ?_
      refine lv_ladd hx hb dX0_rankedSum_37 ?_
      refine lv_lstore_n (lv' := [(3, .long (((rkN i (u.1 j i, rkO (u.1 j) i) k).2.1) + 1)), (0, .ref (ar_ A j)), (1, .long ((rkN i (u.1 j i, rkO (u.1 j) i) k).2.2)), (5, .int (nI i)), (6, .long ((rkN i (u.1 j i, rkO (u.1 j) i) k).1)), (8, .int (nI (pcN (u.1 j i) - k)))]) hx hb dX0_rankedSum_38 rfl hl (by decide) rfl (fun ls hl => ?_)
      refine lv_lload_n hx hb dX0_rankedSum_39 rfl (lv_at hl 2 rfl) ?_
      refine lv_lload_n hx hb dX0_rankedSum_40 rfl (lv_at hl 0 rfl) ?_
      refine lv_bipush (v := 64) hx hb dX0_rankedSum_41 (by decide) ?_
      refine lv_iload hx hb dX0_rankedSum_43 (lv_at hl 3 rfl) ?_
      refine lv_imul hx hb dX0_rankedSum_45 ?_
      refine lv_lload hx hb dX0_rankedSum_46 (lv_at hl 4 rfl) ?_
      refine vp_callSi (W.runS (As := [.long ((rkN i (u.1 j i, rkO (u.1 j) i) k).1)]) (rest := [.int (64 * (nI i)), .long (((rkN i (u.1 j i, rkO (u.1 j) i) k).2.1) + 1), .long ((rkN i (u.1 j i, rkO (u.1 j) i) k).2.2)]) ⟨hx, hb, hml, hown, hts⟩ (c_J7_numberOfTrailingZeros l ((rkN i (u.1 j i, rkO (u.1 j) i) k).1)) (va_cwS 1 hts (gi_S hbc tw_109 tw_110 tw_5 tw_111) rfl rfl rfl (by decide +kernel) ⟨Nat.le_of_ble_eq_true rfl, Nat.le_of_ble_eq_true rfl⟩) preEq rfl rfl hl.1 rfl (lv_room (Nat.le_of_ble_eq_true rfl)) dX0_rankedSum_48 ⟨Nat.le_of_ble_eq_true rfl, Nat.le_of_ble_eq_true rfl⟩) (fun r hq => ?_)
      subst hq
      refine lv_iadd hx hb dX0_rankedSum_51 ?_
      refine lv_i2l hx hb dX0_rankedSum_52 rfl ?_
      refine lv_lmul hx hb dX0_rankedSum_53 ?_
      refine lv_ladd hx hb dX0_rankedSum_54 ?_
      refine lv_lstore_n (lv' := [(1, .long (((rkN i (u.1 j i, rkO (u.1 j) i) k).2.2) + ((((rkN i (u.1 j i, rkO (u.1 j) i) k).2.1) + 1) * (((64 * (nI i)) + (fJ7_numberOfTrailingZeros ((rkN i (u.1 j i, rkO (u.1 j) i) k).1))).toInt64)))), (3, .long (((rkN i (u.1 j i, rkO (u.1 j) i) k).2.1) + 1)), (0, .ref (ar_ A j)), (5, .int (nI i)), (6, .long ((rkN i (u.1 j i, rkO (u.1 j) i) k).1)), (8, .int (nI (pcN (u.1 j i) - k)))]) hx hb dX0_rankedSum_55 rfl hl (by decide) rfl (fun ls hl => ?_)
      refine lv_lload hx hb dX0_rankedSum_56 (lv_at hl 4 rfl) ?_
      refine lv_lload hx hb dX0_rankedSum_58 (lv_at hl 4 rfl) ?_
      refine lv_lconst (v := 1) hx hb dX0_rankedSum_60 (by decide) ?_
      refine lv_lsub hx hb dX0_rankedSum_61 ?_
      refine lv_land hx hb dX0_rankedSum_62 ?_
      refine lv_lstore (lv' := [(6, .long (((rkN i (u.1 j i, rkO (u.1 j) i) k).1) &&& (((rkN i (u.1 j i, rkO (u.1 j) i) k).1) - 1))), (1, .long (((rkN i (u.1 j i, rkO (u.1 j) i) k).2.2) + ((((rkN i (u.1 j i, rkO (u.1 j) i) k).2.1) + 1) * (((64 * (nI i)) + (fJ7_numberOfTrailingZeros ((rkN i (u.1 j i, rkO (u.1 j) i) k).1))).toInt64)))), (3, .long (((rkN i (u.1 j i, rkO (u.1 j) i) k).2.1) + 1)), (0, .ref (ar_ A j)), (5, .int (nI i)), (8, .int (nI (pcN (u.1 j i) - k)))]) hx hb dX0_rankedSum_63 hl (by decide) rfl (fun ls hl => ?_)
      refine lv_iinc (v := nI (pcN (u.1 j i) - (k + 1))) (lv' := [(8, .int (nI (pcN (u.1 j i) - (k + 1)))), (6, .long (((rkN i (u.1 j i, rkO (u.1 j) i) k).1) &&& (((rkN i (u.1 j i, rkO (u.1 j) i) k).1) - 1))), (1, .long (((rkN i (u.1 j i, rkO (u.1 j) i) k).2.2) + ((((rkN i (u.1 j i, rkO (u.1 j) i) k).2.1) + 1) * (((64 * (nI i)) + (fJ7_numberOfTrailingZeros ((rkN i (u.1 j i, rkO (u.1 j) i) k).1))).toInt64)))), (3, .long (((rkN i (u.1 j i, rkO (u.1 j) i) k).2.1) + 1)), (0, .ref (ar_ A j)), (5, .int (nI i))]) hx hb dX0_rankedSum_65 hl (k := 5) rfl (rk_dec hlt_k) (by decide) rfl (fun ls hl => ?_)
      refine lv_goto (tgt := 30) hx hb dX0_rankedSum_68 (by decide) ?_
      have hv_k : u = u := rfl
      exact ih_k _ _ _ (by omega) ⟨tr_P hv_k hP, tr_D hv_k hD, hS, lv_sub hl [4, 2, 3, 5, 1, 0] rfl⟩
end
section
set_option maxHeartbeats 4000000 in
set_option maxRecDepth 100000 in
theorem c_X1_length (l : Launch) (dC : Nat → ClassId) (dI : Nat → Nat → Nat) (A : AdB) (u : StB)  : gMi l yX1_length wX1_length ({ frames := 0, cells := 0, slots := 0, locals := 0 }) (dC, dI) bwCl (tyB A) (wB A) (aB A) [.ref (ag_ A)] u (fun r v => r = u.2.2 ∧ u = v) := by
  unfold gMi
  intro sz
  refine Met.ofW (cc := cX1_length) (maxL := 1) (ret := (some .int)) (by decide) rfl ?_
  intro p e s m args below meth c s₁ B hml hv
  obtain ⟨rfl, hsz, hP, hK, hD⟩ := hv
  subst hsz
  have hS : va_S (aB A s.heap.size) s.heap s.heap [] := va_S.rf
  have hx := B.exec
  have hb := B.bytes
  have hr := B.returns
  have hts := atoms_spec (ws := wX1_length) B.pre
  have hw : ∀ w ∈ tg_, w.before _ s = true := fun w h => hts w (List.mem_cons_of_mem _ h)
  have hown : s.vm.findClass RX1 = some m.cls := findClass_of_methodNamed B.named
  have hlocks := B.notSynchronized
  have hl := lv_entry ([.ref (ag_ A)]) (n := 1) (Nat.le_of_ble_eq_true rfl)
  rw [lg_entry_eq]
  generalize (lg_sl ([.ref (ag_ A)]) ++ List.replicate (1 - (lg_sl ([.ref (ag_ A)])).length) Slot.unset).toArray = ls at hl ⊢
  have hl : lv_has ls 1 [(0, .ref (ag_ A))] := hl
  refine lv_aload_n hx hb dX1_length_0 rfl (lv_at hl 0 rfl) ?_
  refine va_get (D := (dC, dI)) (ci := 1) (v := .int u.2.2) (C := RX1) (T := TX1) (N := 2) hx hb hw igX1 hown hK hP 2 rfl rfl 1 (by decide) (hw _ tw_34) (fun _ h9 => h9) rfl dX1_length_1 ?_
  exact W.iret hx hb hr (fun t9 ht9 hW => ⟨⟨_, u, rfl, ⟨rfl, rfl⟩, by rw [ht9]; exact hP, va_K.moved hW.alike hK, hD⟩, hS.F ht9⟩) hS.2.2 dX1_length_4
set_option maxHeartbeats 4000000 in
set_option maxRecDepth 100000 in
theorem c_X1_codeAt (l : Launch) (dC : Nat → ClassId) (dI : Nat → Nat → Nat) (A : AdB) (u : StB) {t : List Int32} (ht : txB u t) (p0 : Int32) : gMi l yX1_codeAt wX1_codeAt ({ frames := 0, cells := 0, slots := 0, locals := 0 }) (dC, dI) bwCl (tyB A) (wB A) (aB A) [.ref (ag_ A), .int p0] u (fun r v => r = fX1_codeAt u p0 ∧ u = v) := by
  unfold gMi
  intro sz
  refine Met.ofW (cc := cX1_codeAt) (maxL := 2) (ret := (some .int)) (by decide) rfl ?_
  intro p e s m args below meth c s₁ B hml hv
  obtain ⟨rfl, hsz, hP, hK, hD⟩ := hv
  subst hsz
  have hS : va_S (aB A s.heap.size) s.heap s.heap [] := va_S.rf
  have hx := B.exec
  have hb := B.bytes
  have hr := B.returns
  have hts := atoms_spec (ws := wX1_codeAt) B.pre
  have hw : ∀ w ∈ tg_, w.before _ s = true := fun w h => hts w (List.mem_cons_of_mem _ h)
  have hown : s.vm.findClass RX1 = some m.cls := findClass_of_methodNamed B.named
  have hlocks := B.notSynchronized
  have hl := lv_entry ([.ref (ag_ A), .int p0]) (n := 2) (Nat.le_of_ble_eq_true rfl)
  rw [lg_entry_eq]
  generalize (lg_sl ([.ref (ag_ A), .int p0]) ++ List.replicate (2 - (lg_sl ([.ref (ag_ A), .int p0])).length) Slot.unset).toArray = ls at hl ⊢
  have hl : lv_has ls 2 [(0, .ref (ag_ A)), (1, .int p0)] := hl
  refine lv_iload_n hx hb dX1_codeAt_0 rfl (lv_at hl 1 rfl) ?_
  refine lv_if_lt (tgt := 12) hx hb dX1_codeAt_1 (by decide) (fun c1 => ?_) (fun c1 => ?_)
  · refine lv_bipush (v := -2) hx hb dX1_codeAt_12 (by decide) ?_
    exact W.iret hx hb hr (fun t9 ht9 hW => ⟨⟨_, u, rfl, ⟨by unfold fX1_codeAt; rw [if_pos c1], rfl⟩, by rw [ht9]; exact hP, va_K.moved hW.alike hK, hD⟩, hS.F ht9⟩) hS.2.2 dX1_codeAt_14
  · refine lv_iload_n hx hb dX1_codeAt_4 rfl (lv_at hl 1 rfl) ?_
    refine lv_aload_n hx hb dX1_codeAt_5 rfl (lv_at hl 0 rfl) ?_
    refine va_get (D := (dC, dI)) (ci := 1) (v := .int u.2.2) (C := RX1) (T := TX1) (N := 2) hx hb hw igX1 hown hK hP 2 rfl rfl 1 (by decide) (hw _ tw_34) (fun _ h9 => h9) rfl dX1_codeAt_6 ?_
    refine lv_icmp_lt (tgt := 15) hx hb dX1_codeAt_9 (by decide) (fun c2 => ?_) (fun c2 => ?_)
    · refine lv_aload_n hx hb dX1_codeAt_15 rfl (lv_at hl 0 rfl) ?_
      refine va_get (D := (dC, dI)) (ci := 1) (v := .ref (ac_ A)) (C := RX1) (T := TX1) (N := 2) hx hb hw igX1 hown hK hP 2 rfl rfl 0 (by decide) (hw _ tw_33) (fun _ h9 => h9) rfl dX1_codeAt_16 ?_
      refine lv_iload_n hx hb dX1_codeAt_19 rfl (lv_at hl 1 rfl) ?_
      refine va_cald hx hb hK hP 3 1 rfl rfl (ca_in ht c1 c2) dX1_codeAt_20 ?_
      exact W.iret hx hb hr (fun t9 ht9 hW => ⟨⟨_, u, rfl, ⟨by unfold fX1_codeAt; rw [if_neg c1, if_pos c2], rfl⟩, by rw [ht9]; exact hP, va_K.moved hW.alike hK, hD⟩, hS.F ht9⟩) hS.2.2 dX1_codeAt_21
    · refine lv_bipush (v := -2) hx hb dX1_codeAt_12 (by decide) ?_
      exact W.iret hx hb hr (fun t9 ht9 hW => ⟨⟨_, u, rfl, ⟨by unfold fX1_codeAt; rw [if_neg c1, if_neg c2], rfl⟩, by rw [ht9]; exact hP, va_K.moved hW.alike hK, hD⟩, hS.F ht9⟩) hS.2.2 dX1_codeAt_14
set_option maxHeartbeats 4000000 in
set_option maxRecDepth 100000 in
theorem c_X1_add (l : Launch) (dC : Nat → ClassId) (dI : Nat → Nat → Nat) (A : AdB) (u : StB) {t : List Int32} (ht : txB u t) (p0 : Int32) : gMv l yX1_add wX1_add ({ frames := 0, cells := 0, slots := 0, locals := 0 }) (dC, dI) bwCl (tyB A) (wB A) (aB A) [.ref (ag_ A), .int p0] u (fun v => v.1 = u.1 ∧ txB v (adT t (vp_nar .char p0))) := by
  unfold gMv
  intro sz
  refine Met.ofW (cc := cX1_add) (maxL := 2) (ret := none) (by decide) rfl ?_
  intro p e s m args below meth c s₁ B hml hv
  obtain ⟨rfl, hsz, hP, hK, hD⟩ := hv
  subst hsz
  have hS : va_S (aB A s.heap.size) s.heap s.heap [] := va_S.rf
  have hx := B.exec
  have hb := B.bytes
  have hr := B.returns
  have hts := atoms_spec (ws := wX1_add) B.pre
  have hw : ∀ w ∈ tg_, w.before _ s = true := fun w h => hts w (List.mem_cons_of_mem _ h)
  have hown : s.vm.findClass RX1 = some m.cls := findClass_of_methodNamed B.named
  have hlocks := B.notSynchronized
  have hl := lv_entry ([.ref (ag_ A), .int p0]) (n := 2) (Nat.le_of_ble_eq_true rfl)
  rw [lg_entry_eq]
  generalize (lg_sl ([.ref (ag_ A), .int p0]) ++ List.replicate (2 - (lg_sl ([.ref (ag_ A), .int p0])).length) Slot.unset).toArray = ls at hl ⊢
  have hl : lv_has ls 2 [(0, .ref (ag_ A)), (1, .int p0)] := hl
  refine lv_aload_n hx hb dX1_add_0 rfl (lv_at hl 0 rfl) ?_
  refine va_get (D := (dC, dI)) (ci := 1) (v := .int u.2.2) (C := RX1) (T := TX1) (N := 2) hx hb hw igX1 hown hK hP 2 rfl rfl 1 (by decide) (hw _ tw_34) (fun _ h9 => h9) rfl dX1_add_1 ?_
  refine lv_sipush (v := 530) hx hb dX1_add_4 (by decide) ?_
  refine lv_icmp_ge (tgt := 30) hx hb dX1_add_7 (by decide) (fun c1 => ?_) (fun c1 => ?_)
  · exact W.vret hx hb hr (fun t9 ht9 hW => ⟨⟨u, rfl, ⟨rfl, ad_no _ ht c1⟩, by rw [ht9]; exact hP, va_K.moved hW.alike hK, hD⟩, hS.F ht9⟩) hS.2.2 dX1_add_30
  · refine lv_aload_n hx hb dX1_add_10 rfl (lv_at hl 0 rfl) ?_
    refine va_get (D := (dC, dI)) (ci := 1) (v := .ref (ac_ A)) (C := RX1) (T := TX1) (N := 2) hx hb hw igX1 hown hK hP 2 rfl rfl 0 (by decide) (hw _ tw_33) (fun _ h9 => h9) rfl dX1_add_11 ?_
    refine lv_aload_n hx hb dX1_add_14 rfl (lv_at hl 0 rfl) ?_
    refine va_get (D := (dC, dI)) (ci := 1) (v := .int u.2.2) (C := RX1) (T := TX1) (N := 2) hx hb hw igX1 hown hK hP 2 rfl rfl 1 (by decide) (hw _ tw_34) (fun _ h9 => h9) rfl dX1_add_15 ?_
    refine lv_iload_n hx hb dX1_add_18 rfl (lv_at hl 1 rfl) ?_
    refine va_cast hx hb hK hP hD hS 3 1 rfl rfl (ad_in ht c1) dX1_add_19 (fun H locs hP hD hS => ?_)
    rw [wB_chr] at hP hD
    refine lv_aload_n hx hb dX1_add_20 rfl (lv_at hl 0 rfl) ?_
    refine lv_dup hx hb dX1_add_21 rfl ?_
    refine va_get (D := (dC, dI)) (ci := 1) (v := .int ((u.1, upd u.2.1 u.2.2.toNatClampNeg (vp_nar .char p0), u.2.2).2.2)) (C := RX1) (T := TX1) (N := 2) hx hb hw igX1 hown hK hP 2 rfl rfl 1 (by decide) (hw _ tw_34) (fun _ h9 => h9) rfl dX1_add_22 ?_
    refine lv_iconst (v := 1) hx hb dX1_add_25 (by decide) ?_
    refine lv_iadd hx hb dX1_add_26 ?_
    refine va_put (D := (dC, dI)) (ci := 1) (v := .int (((u.1, upd u.2.1 u.2.2.toNatClampNeg (vp_nar .char p0), u.2.2).2.2) + 1)) (ty := .int) (C := RX1) (T := TX1) (N := 2) hx hb hw igX1 tyX1 tyX1_ok nmX1 hown hK hP hD hS 2 rfl rfl 1 (by decide) (hw _ tw_34) (fun _ h9 => h9) rfl (by decide +kernel) rfl rfl (Nat.le_of_ble_eq_true rfl) dX1_add_27 (fun H locs hP hD hS => ?_)
    have hP : va_P (dC, dI) bwCl (wB A ((u.1, upd u.2.1 u.2.2.toNatClampNeg (vp_nar .char p0), u.2.2).1, (u.1, upd u.2.1 u.2.2.toNatClampNeg (vp_nar .char p0), u.2.2).2.1, ((u.1, upd u.2.1 u.2.2.toNatClampNeg (vp_nar .char p0), u.2.2).2.2) + 1)) H := hP
    have hD : va_D (aB A s.heap.size) (wB A ((u.1, upd u.2.1 u.2.2.toNatClampNeg (vp_nar .char p0), u.2.2).1, (u.1, upd u.2.1 u.2.2.toNatClampNeg (vp_nar .char p0), u.2.2).2.1, ((u.1, upd u.2.1 u.2.2.toNatClampNeg (vp_nar .char p0), u.2.2).2.2) + 1)) := hD
    exact W.vret hx hb hr (fun t9 ht9 hW => ⟨⟨((u.1, upd u.2.1 u.2.2.toNatClampNeg (vp_nar .char p0), u.2.2).1, (u.1, upd u.2.1 u.2.2.toNatClampNeg (vp_nar .char p0), u.2.2).2.1, ((u.1, upd u.2.1 u.2.2.toNatClampNeg (vp_nar .char p0), u.2.2).2.2) + 1), rfl, ⟨rfl, ad_ok _ ht c1⟩, by rw [ht9]; exact hP, va_K.moved hW.alike hK, hD⟩, hS.F ht9⟩) hS.2.2 dX1_add_30
set_option maxHeartbeats 4000000 in
set_option maxRecDepth 100000 in
theorem c_X1_addDigit (l : Launch) (dC : Nat → ClassId) (dI : Nat → Nat → Nat) (A : AdB) (u : StB) {t : List Int32} (ht : txB u t) (p0 : Int32) : gMv l yX1_addDigit wX1_addDigit ({ frames := 1, cells := 0, slots := 0, locals := 21 }) (dC, dI) bwCl (tyB A) (wB A) (aB A) [.ref (ag_ A), .int p0] u (fun v => v.1 = u.1 ∧ txB v (dgT t p0)) := by
  unfold gMv
  intro sz
  refine Met.ofW (cc := cX1_addDigit) (maxL := 2) (ret := none) (by decide) rfl ?_
  intro p e s m args below meth c s₁ B hml hv
  obtain ⟨rfl, hsz, hP, hK, hD⟩ := hv
  subst hsz
  have hS : va_S (aB A s.heap.size) s.heap s.heap [] := va_S.rf
  have hx := B.exec
  have hb := B.bytes
  have hr := B.returns
  have hts := atoms_spec (ws := wX1_addDigit) B.pre
  have hw : ∀ w ∈ tg_, w.before _ s = true := fun w h => hts w (List.mem_cons_of_mem _ h)
  have hown : s.vm.findClass RX1 = some m.cls := findClass_of_methodNamed B.named
  have hlocks := B.notSynchronized
  have hl := lv_entry ([.ref (ag_ A), .int p0]) (n := 2) (Nat.le_of_ble_eq_true rfl)
  rw [lg_entry_eq]
  generalize (lg_sl ([.ref (ag_ A), .int p0]) ++ List.replicate (2 - (lg_sl ([.ref (ag_ A), .int p0])).length) Slot.unset).toArray = ls at hl ⊢
  have hl : lv_has ls 2 [(0, .ref (ag_ A)), (1, .int p0)] := hl
  refine lv_aload_n hx hb dX1_addDigit_0 rfl (lv_at hl 0 rfl) ?_
  refine lv_bipush (v := 48) hx hb dX1_addDigit_1 (by decide) ?_
  refine lv_iload_n hx hb dX1_addDigit_3 rfl (lv_at hl 1 rfl) ?_
  refine lv_iadd hx hb dX1_addDigit_4 ?_
  refine lv_i2c hx hb dX1_addDigit_5 rfl ?_
  refine gVv (As := [.int (((48 + p0).toUInt32 % 65536).toInt32)]) (rest := []) ⟨hx, hb, hml, hown, hts⟩ (c_X1_add l dC dI A u ht (((48 + p0).toUInt32 % 65536).toInt32)) (cwV 1 hts (gi_V hbc tw_209 tw_211 ts_1 tw_3 tw_212) rfl rfl rfl (by decide +kernel) ⟨Nat.le_of_ble_eq_true rfl, Nat.le_of_ble_eq_true rfl⟩) (va_recv hK hP (ci := 1) (q0 := 2) rfl rfl) aB_mono aB_D hP hK hD hS rfl hl.1 rfl (Nat.le_of_ble_eq_true rfl) dX1_addDigit_6 ⟨Nat.le_of_ble_eq_true rfl, Nat.le_of_ble_eq_true rfl⟩ (fun v3 H locs hq2 hP hD hS => ?_)
  obtain ⟨h4, ht5⟩ := hq2
  exact W.vret hx hb hr (fun t9 ht9 hW => ⟨⟨v3, rfl, ⟨h4, ht5⟩, by rw [ht9]; exact hP, va_K.moved hW.alike hK, hD⟩, hS.F ht9⟩) hS.2.2 dX1_addDigit_9
set_option maxHeartbeats 4000000 in
set_option maxRecDepth 100000 in
theorem c_X1_addPlace (l : Launch) (dC : Nat → ClassId) (dI : Nat → Nat → Nat) (A : AdB) (u : StB) {t : List Int32} (ht : txB u t) (p0 : Int32) : gMv l yX1_addPlace wX1_addPlace ({ frames := 2, cells := 0, slots := 0, locals := 42 }) (dC, dI) bwCl (tyB A) (wB A) (aB A) [.ref (ag_ A), .int p0] u (fun v => v.1 = u.1 ∧ txB v (apT p0 t)) := by
  unfold gMv
  intro sz
  refine Met.ofW (cc := cX1_addPlace) (maxL := 2) (ret := none) (by decide) rfl ?_
  intro p e s m args below meth c s₁ B hml hv
  obtain ⟨rfl, hsz, hP, hK, hD⟩ := hv
  subst hsz
  have hS : va_S (aB A s.heap.size) s.heap s.heap [] := va_S.rf
  have hx := B.exec
  have hb := B.bytes
  have hr := B.returns
  have hts := atoms_spec (ws := wX1_addPlace) B.pre
  have hw : ∀ w ∈ tg_, w.before _ s = true := fun w h => hts w (List.mem_cons_of_mem _ h)
  have hown : s.vm.findClass RX1 = some m.cls := findClass_of_methodNamed B.named
  have hlocks := B.notSynchronized
  have hl := lv_entry ([.ref (ag_ A), .int p0]) (n := 2) (Nat.le_of_ble_eq_true rfl)
  rw [lg_entry_eq]
  generalize (lg_sl ([.ref (ag_ A), .int p0]) ++ List.replicate (2 - (lg_sl ([.ref (ag_ A), .int p0])).length) Slot.unset).toArray = ls at hl ⊢
  have hl : lv_has ls 2 [(0, .ref (ag_ A)), (1, .int p0)] := hl
  refine lv_aload_n hx hb dX1_addPlace_0 rfl (lv_at hl 0 rfl) ?_
  refine va_get (D := (dC, dI)) (ci := 1) (v := .int u.2.2) (C := RX1) (T := TX1) (N := 2) hx hb hw igX1 hown hK hP 2 rfl rfl 1 (by decide) (hw _ tw_34) (fun _ h9 => h9) rfl dX1_addPlace_1 ?_
  refine lv_iconst (v := 1) hx hb dX1_addPlace_4 (by decide) ?_
  refine lv_icmp_le (tgt := 20) hx hb dX1_addPlace_5 (by decide) (fun c1 => ?_) (fun c1 => ?_)
  · rw [ht.1] at c1
    refine lv_iload_n hx hb dX1_addPlace_20 rfl (lv_at hl 1 rfl) ?_
    refine lv_bipush (v := 100) hx hb dX1_addPlace_21 (by decide) ?_
    refine lv_icmp_lt (tgt := 34) hx hb dX1_addPlace_23 (by decide) (fun c2 => ?_) (fun c2 => ?_)
    · refine lv_iload_n hx hb dX1_addPlace_34 rfl (lv_at hl 1 rfl) ?_
      refine lv_bipush (v := 10) hx hb dX1_addPlace_35 (by decide) ?_
      refine lv_icmp_lt (tgt := 51) hx hb dX1_addPlace_37 (by decide) (fun c3 => ?_) (fun c3 => ?_)
      · refine lv_aload_n hx hb dX1_addPlace_51 rfl (lv_at hl 0 rfl) ?_
        refine lv_iload_n hx hb dX1_addPlace_52 rfl (lv_at hl 1 rfl) ?_
        refine lv_bipush (v := 10) hx hb dX1_addPlace_53 (by decide) ?_
        refine lv_irem hx hb dX1_addPlace_55 (by decide) ?_
        refine gVv (As := [.int (p0 - p0 / 10 * 10)]) (rest := []) ⟨hx, hb, hml, hown, hts⟩ (c_X1_addDigit l dC dI A u ht (p0 - p0 / 10 * 10)) (cwV 1 hts (gi_V hbc tw_218 tw_220 ts_3 tw_3 tw_221) rfl rfl rfl (by decide +kernel) ⟨Nat.le_of_ble_eq_true rfl, Nat.le_of_ble_eq_true rfl⟩) (va_recv hK hP (ci := 1) (q0 := 2) rfl rfl) aB_mono aB_D hP hK hD hS rfl hl.1 rfl (Nat.le_of_ble_eq_true rfl) dX1_addPlace_56 ⟨Nat.le_of_ble_eq_true rfl, Nat.le_of_ble_eq_true rfl⟩ (fun v6 H locs hq5 hP hD hS => ?_)
        obtain ⟨h7, ht8⟩ := hq5
        exact W.vret hx hb hr (fun t9 ht9 hW => ⟨⟨v6, rfl, ⟨h7, by unfold apT ap3 ap2 ap1; rw [if_pos c1, if_pos c2, if_pos c3]; exact ht8⟩, by rw [ht9]; exact hP, va_K.moved hW.alike hK, hD⟩, hS.F ht9⟩) hS.2.2 dX1_addPlace_59
      · refine lv_aload_n hx hb dX1_addPlace_40 rfl (lv_at hl 0 rfl) ?_
        refine lv_iload_n hx hb dX1_addPlace_41 rfl (lv_at hl 1 rfl) ?_
        refine lv_bipush (v := 10) hx hb dX1_addPlace_42 (by decide) ?_
        refine lv_idiv hx hb dX1_addPlace_44 (by decide) ?_
        refine lv_bipush (v := 10) hx hb dX1_addPlace_45 (by decide) ?_
        refine lv_irem hx hb dX1_addPlace_47 (by decide) ?_
        refine gVv (As := [.int ((p0 / 10) - (p0 / 10) / 10 * 10)]) (rest := []) ⟨hx, hb, hml, hown, hts⟩ (c_X1_addDigit l dC dI A u ht ((p0 / 10) - (p0 / 10) / 10 * 10)) (cwV 1 hts (gi_V hbc tw_218 tw_220 ts_3 tw_3 tw_221) rfl rfl rfl (by decide +kernel) ⟨Nat.le_of_ble_eq_true rfl, Nat.le_of_ble_eq_true rfl⟩) (va_recv hK hP (ci := 1) (q0 := 2) rfl rfl) aB_mono aB_D hP hK hD hS rfl hl.1 rfl (Nat.le_of_ble_eq_true rfl) dX1_addPlace_48 ⟨Nat.le_of_ble_eq_true rfl, Nat.le_of_ble_eq_true rfl⟩ (fun v11 H locs hq10 hP hD hS => ?_)
        obtain ⟨h12, ht13⟩ := hq10
        refine lv_aload_n hx hb dX1_addPlace_51 rfl (lv_at hl 0 rfl) ?_
        refine lv_iload_n hx hb dX1_addPlace_52 rfl (lv_at hl 1 rfl) ?_
        refine lv_bipush (v := 10) hx hb dX1_addPlace_53 (by decide) ?_
        refine lv_irem hx hb dX1_addPlace_55 (by decide) ?_
        refine gVv (As := [.int (p0 - p0 / 10 * 10)]) (rest := []) ⟨hx, hb, hml, hown, hts⟩ (c_X1_addDigit l dC dI A v11 ht13 (p0 - p0 / 10 * 10)) (cwV 1 hts (gi_V hbc tw_218 tw_220 ts_3 tw_3 tw_221) rfl rfl rfl (by decide +kernel) ⟨Nat.le_of_ble_eq_true rfl, Nat.le_of_ble_eq_true rfl⟩) (va_recv hK hP (ci := 1) (q0 := 2) rfl rfl) aB_mono aB_D hP hK hD hS rfl hl.1 rfl (Nat.le_of_ble_eq_true rfl) dX1_addPlace_56 ⟨Nat.le_of_ble_eq_true rfl, Nat.le_of_ble_eq_true rfl⟩ (fun v16 H locs hq15 hP hD hS => ?_)
        obtain ⟨h17, ht18⟩ := hq15
        have h17 := h17.trans h12
        exact W.vret hx hb hr (fun t9 ht9 hW => ⟨⟨v16, rfl, ⟨h17, by unfold apT ap3 ap2 ap1; rw [if_pos c1, if_pos c2, if_neg c3]; exact ht18⟩, by rw [ht9]; exact hP, va_K.moved hW.alike hK, hD⟩, hS.F ht9⟩) hS.2.2 dX1_addPlace_59
    · refine lv_aload_n hx hb dX1_addPlace_26 rfl (lv_at hl 0 rfl) ?_
      refine lv_iload_n hx hb dX1_addPlace_27 rfl (lv_at hl 1 rfl) ?_
      refine lv_bipush (v := 100) hx hb dX1_addPlace_28 (by decide) ?_
      refine lv_idiv hx hb dX1_addPlace_30 (by decide) ?_
      refine gVv (As := [.int (p0 / 100)]) (rest := []) ⟨hx, hb, hml, hown, hts⟩ (c_X1_addDigit l dC dI A u ht (p0 / 100)) (cwV 1 hts (gi_V hbc tw_218 tw_220 ts_3 tw_3 tw_221) rfl rfl rfl (by decide +kernel) ⟨Nat.le_of_ble_eq_true rfl, Nat.le_of_ble_eq_true rfl⟩) (va_recv hK hP (ci := 1) (q0 := 2) rfl rfl) aB_mono aB_D hP hK hD hS rfl hl.1 rfl (Nat.le_of_ble_eq_true rfl) dX1_addPlace_31 ⟨Nat.le_of_ble_eq_true rfl, Nat.le_of_ble_eq_true rfl⟩ (fun v21 H locs hq20 hP hD hS => ?_)
      obtain ⟨h22, ht23⟩ := hq20
      refine lv_iload_n hx hb dX1_addPlace_34 rfl (lv_at hl 1 rfl) ?_
      refine lv_bipush (v := 10) hx hb dX1_addPlace_35 (by decide) ?_
      refine lv_icmp_lt (tgt := 51) hx hb dX1_addPlace_37 (by decide) (fun c24 => ?_) (fun c24 => ?_)
      · refine lv_aload_n hx hb dX1_addPlace_51 rfl (lv_at hl 0 rfl) ?_
        refine lv_iload_n hx hb dX1_addPlace_52 rfl (lv_at hl 1 rfl) ?_
        refine lv_bipush (v := 10) hx hb dX1_addPlace_53 (by decide) ?_
        refine lv_irem hx hb dX1_addPlace_55 (by decide) ?_
        refine gVv (As := [.int (p0 - p0 / 10 * 10)]) (rest := []) ⟨hx, hb, hml, hown, hts⟩ (c_X1_addDigit l dC dI A v21 ht23 (p0 - p0 / 10 * 10)) (cwV 1 hts (gi_V hbc tw_218 tw_220 ts_3 tw_3 tw_221) rfl rfl rfl (by decide +kernel) ⟨Nat.le_of_ble_eq_true rfl, Nat.le_of_ble_eq_true rfl⟩) (va_recv hK hP (ci := 1) (q0 := 2) rfl rfl) aB_mono aB_D hP hK hD hS rfl hl.1 rfl (Nat.le_of_ble_eq_true rfl) dX1_addPlace_56 ⟨Nat.le_of_ble_eq_true rfl, Nat.le_of_ble_eq_true rfl⟩ (fun v27 H locs hq26 hP hD hS => ?_)
        obtain ⟨h28, ht29⟩ := hq26
        have h28 := h28.trans h22
        exact W.vret hx hb hr (fun t9 ht9 hW => ⟨⟨v27, rfl, ⟨h28, by unfold apT ap3 ap2 ap1; rw [if_pos c1, if_neg c2, if_pos c24]; exact ht29⟩, by rw [ht9]; exact hP, va_K.moved hW.alike hK, hD⟩, hS.F ht9⟩) hS.2.2 dX1_addPlace_59
      · refine lv_aload_n hx hb dX1_addPlace_40 rfl (lv_at hl 0 rfl) ?_
        refine lv_iload_n hx hb dX1_addPlace_41 rfl (lv_at hl 1 rfl) ?_
        refine lv_bipush (v := 10) hx hb dX1_addPlace_42 (by decide) ?_
        refine lv_idiv hx hb dX1_addPlace_44 (by decide) ?_
        refine lv_bipush (v := 10) hx hb dX1_addPlace_45 (by decide) ?_
        refine lv_irem hx hb dX1_addPlace_47 (by decide) ?_
        refine gVv (As := [.int ((p0 / 10) - (p0 / 10) / 10 * 10)]) (rest := []) ⟨hx, hb, hml, hown, hts⟩ (c_X1_addDigit l dC dI A v21 ht23 ((p0 / 10) - (p0 / 10) / 10 * 10)) (cwV 1 hts (gi_V hbc tw_218 tw_220 ts_3 tw_3 tw_221) rfl rfl rfl (by decide +kernel) ⟨Nat.le_of_ble_eq_true rfl, Nat.le_of_ble_eq_true rfl⟩) (va_recv hK hP (ci := 1) (q0 := 2) rfl rfl) aB_mono aB_D hP hK hD hS rfl hl.1 rfl (Nat.le_of_ble_eq_true rfl) dX1_addPlace_48 ⟨Nat.le_of_ble_eq_true rfl, Nat.le_of_ble_eq_true rfl⟩ (fun v32 H locs hq31 hP hD hS => ?_)
        obtain ⟨h33, ht34⟩ := hq31
        have h33 := h33.trans h22
        refine lv_aload_n hx hb dX1_addPlace_51 rfl (lv_at hl 0 rfl) ?_
        refine lv_iload_n hx hb dX1_addPlace_52 rfl (lv_at hl 1 rfl) ?_
        refine lv_bipush (v := 10) hx hb dX1_addPlace_53 (by decide) ?_
        refine lv_irem hx hb dX1_addPlace_55 (by decide) ?_
        refine gVv (As := [.int (p0 - p0 / 10 * 10)]) (rest := []) ⟨hx, hb, hml, hown, hts⟩ (c_X1_addDigit l dC dI A v32 ht34 (p0 - p0 / 10 * 10)) (cwV 1 hts (gi_V hbc tw_218 tw_220 ts_3 tw_3 tw_221) rfl rfl rfl (by decide +kernel) ⟨Nat.le_of_ble_eq_true rfl, Nat.le_of_ble_eq_true rfl⟩) (va_recv hK hP (ci := 1) (q0 := 2) rfl rfl) aB_mono aB_D hP hK hD hS rfl hl.1 rfl (Nat.le_of_ble_eq_true rfl) dX1_addPlace_56 ⟨Nat.le_of_ble_eq_true rfl, Nat.le_of_ble_eq_true rfl⟩ (fun v37 H locs hq36 hP hD hS => ?_)
        obtain ⟨h38, ht39⟩ := hq36
        have h38 := h38.trans h33
        exact W.vret hx hb hr (fun t9 ht9 hW => ⟨⟨v37, rfl, ⟨h38, by unfold apT ap3 ap2 ap1; rw [if_pos c1, if_neg c2, if_neg c24]; exact ht39⟩, by rw [ht9]; exact hP, va_K.moved hW.alike hK, hD⟩, hS.F ht9⟩) hS.2.2 dX1_addPlace_59
  · rw [ht.1] at c1
    refine lv_aload_n hx hb dX1_addPlace_8 rfl (lv_at hl 0 rfl) ?_
    refine lv_bipush (v := 44) hx hb dX1_addPlace_9 (by decide) ?_
    refine gVv (As := [.int 44]) (rest := []) ⟨hx, hb, hml, hown, hts⟩ (c_X1_add l dC dI A u ht 44) (cwV 1 hts (gi_V hbc tw_209 tw_211 ts_1 tw_3 tw_212) rfl rfl rfl (by decide +kernel) ⟨Nat.le_of_ble_eq_true rfl, Nat.le_of_ble_eq_true rfl⟩) (va_recv hK hP (ci := 1) (q0 := 2) rfl rfl) aB_mono aB_D hP hK hD hS rfl hl.1 rfl (Nat.le_of_ble_eq_true rfl) dX1_addPlace_11 ⟨Nat.le_of_ble_eq_true rfl, Nat.le_of_ble_eq_true rfl⟩ (fun v42 H locs hq41 hP hD hS => ?_)
    obtain ⟨h43, ht44⟩ := hq41
    refine lv_aload_n hx hb dX1_addPlace_14 rfl (lv_at hl 0 rfl) ?_
    refine lv_bipush (v := 32) hx hb dX1_addPlace_15 (by decide) ?_
    refine gVv (As := [.int 32]) (rest := []) ⟨hx, hb, hml, hown, hts⟩ (c_X1_add l dC dI A v42 ht44 32) (cwV 1 hts (gi_V hbc tw_209 tw_211 ts_1 tw_3 tw_212) rfl rfl rfl (by decide +kernel) ⟨Nat.le_of_ble_eq_true rfl, Nat.le_of_ble_eq_true rfl⟩) (va_recv hK hP (ci := 1) (q0 := 2) rfl rfl) aB_mono aB_D hP hK hD hS rfl hl.1 rfl (Nat.le_of_ble_eq_true rfl) dX1_addPlace_17 ⟨Nat.le_of_ble_eq_true rfl, Nat.le_of_ble_eq_true rfl⟩ (fun v47 H locs hq46 hP hD hS => ?_)
    obtain ⟨h48, ht49⟩ := hq46
    have h48 := h48.trans h43
    refine lv_iload_n hx hb dX1_addPlace_20 rfl (lv_at hl 1 rfl) ?_
    refine lv_bipush (v := 100) hx hb dX1_addPlace_21 (by decide) ?_
    refine lv_icmp_lt (tgt := 34) hx hb dX1_addPlace_23 (by decide) (fun c50 => ?_) (fun c50 => ?_)
    · refine lv_iload_n hx hb dX1_addPlace_34 rfl (lv_at hl 1 rfl) ?_
      refine lv_bipush (v := 10) hx hb dX1_addPlace_35 (by decide) ?_
      refine lv_icmp_lt (tgt := 51) hx hb dX1_addPlace_37 (by decide) (fun c51 => ?_) (fun c51 => ?_)
      · refine lv_aload_n hx hb dX1_addPlace_51 rfl (lv_at hl 0 rfl) ?_
        refine lv_iload_n hx hb dX1_addPlace_52 rfl (lv_at hl 1 rfl) ?_
        refine lv_bipush (v := 10) hx hb dX1_addPlace_53 (by decide) ?_
        refine lv_irem hx hb dX1_addPlace_55 (by decide) ?_
        refine gVv (As := [.int (p0 - p0 / 10 * 10)]) (rest := []) ⟨hx, hb, hml, hown, hts⟩ (c_X1_addDigit l dC dI A v47 ht49 (p0 - p0 / 10 * 10)) (cwV 1 hts (gi_V hbc tw_218 tw_220 ts_3 tw_3 tw_221) rfl rfl rfl (by decide +kernel) ⟨Nat.le_of_ble_eq_true rfl, Nat.le_of_ble_eq_true rfl⟩) (va_recv hK hP (ci := 1) (q0 := 2) rfl rfl) aB_mono aB_D hP hK hD hS rfl hl.1 rfl (Nat.le_of_ble_eq_true rfl) dX1_addPlace_56 ⟨Nat.le_of_ble_eq_true rfl, Nat.le_of_ble_eq_true rfl⟩ (fun v54 H locs hq53 hP hD hS => ?_)
        obtain ⟨h55, ht56⟩ := hq53
        have h55 := h55.trans h48
        exact W.vret hx hb hr (fun t9 ht9 hW => ⟨⟨v54, rfl, ⟨h55, by unfold apT ap3 ap2 ap1; rw [if_neg c1, if_pos c50, if_pos c51]; exact ht56⟩, by rw [ht9]; exact hP, va_K.moved hW.alike hK, hD⟩, hS.F ht9⟩) hS.2.2 dX1_addPlace_59
      · refine lv_aload_n hx hb dX1_addPlace_40 rfl (lv_at hl 0 rfl) ?_
        refine lv_iload_n hx hb dX1_addPlace_41 rfl (lv_at hl 1 rfl) ?_
        refine lv_bipush (v := 10) hx hb dX1_addPlace_42 (by decide) ?_
        refine lv_idiv hx hb dX1_addPlace_44 (by decide) ?_
        refine lv_bipush (v := 10) hx hb dX1_addPlace_45 (by decide) ?_
        refine lv_irem hx hb dX1_addPlace_47 (by decide) ?_
        refine gVv (As := [.int ((p0 / 10) - (p0 / 10) / 10 * 10)]) (rest := []) ⟨hx, hb, hml, hown, hts⟩ (c_X1_addDigit l dC dI A v47 ht49 ((p0 / 10) - (p0 / 10) / 10 * 10)) (cwV 1 hts (gi_V hbc tw_218 tw_220 ts_3 tw_3 tw_221) rfl rfl rfl (by decide +kernel) ⟨Nat.le_of_ble_eq_true rfl, Nat.le_of_ble_eq_true rfl⟩) (va_recv hK hP (ci := 1) (q0 := 2) rfl rfl) aB_mono aB_D hP hK hD hS rfl hl.1 rfl (Nat.le_of_ble_eq_true rfl) dX1_addPlace_48 ⟨Nat.le_of_ble_eq_true rfl, Nat.le_of_ble_eq_true rfl⟩ (fun v59 H locs hq58 hP hD hS => ?_)
        obtain ⟨h60, ht61⟩ := hq58
        have h60 := h60.trans h48
        refine lv_aload_n hx hb dX1_addPlace_51 rfl (lv_at hl 0 rfl) ?_
        refine lv_iload_n hx hb dX1_addPlace_52 rfl (lv_at hl 1 rfl) ?_
        refine lv_bipush (v := 10) hx hb dX1_addPlace_53 (by decide) ?_
        refine lv_irem hx hb dX1_addPlace_55 (by decide) ?_
        refine gVv (As := [.int (p0 - p0 / 10 * 10)]) (rest := []) ⟨hx, hb, hml, hown, hts⟩ (c_X1_addDigit l dC dI A v59 ht61 (p0 - p0 / 10 * 10)) (cwV 1 hts (gi_V hbc tw_218 tw_220 ts_3 tw_3 tw_221) rfl rfl rfl (by decide +kernel) ⟨Nat.le_of_ble_eq_true rfl, Nat.le_of_ble_eq_true rfl⟩) (va_recv hK hP (ci := 1) (q0 := 2) rfl rfl) aB_mono aB_D hP hK hD hS rfl hl.1 rfl (Nat.le_of_ble_eq_true rfl) dX1_addPlace_56 ⟨Nat.le_of_ble_eq_true rfl, Nat.le_of_ble_eq_true rfl⟩ (fun v64 H locs hq63 hP hD hS => ?_)
        obtain ⟨h65, ht66⟩ := hq63
        have h65 := h65.trans h60
        exact W.vret hx hb hr (fun t9 ht9 hW => ⟨⟨v64, rfl, ⟨h65, by unfold apT ap3 ap2 ap1; rw [if_neg c1, if_pos c50, if_neg c51]; exact ht66⟩, by rw [ht9]; exact hP, va_K.moved hW.alike hK, hD⟩, hS.F ht9⟩) hS.2.2 dX1_addPlace_59
    · refine lv_aload_n hx hb dX1_addPlace_26 rfl (lv_at hl 0 rfl) ?_
      refine lv_iload_n hx hb dX1_addPlace_27 rfl (lv_at hl 1 rfl) ?_
      refine lv_bipush (v := 100) hx hb dX1_addPlace_28 (by decide) ?_
      refine lv_idiv hx hb dX1_addPlace_30 (by decide) ?_
      refine gVv (As := [.int (p0 / 100)]) (rest := []) ⟨hx, hb, hml, hown, hts⟩ (c_X1_addDigit l dC dI A v47 ht49 (p0 / 100)) (cwV 1 hts (gi_V hbc tw_218 tw_220 ts_3 tw_3 tw_221) rfl rfl rfl (by decide +kernel) ⟨Nat.le_of_ble_eq_true rfl, Nat.le_of_ble_eq_true rfl⟩) (va_recv hK hP (ci := 1) (q0 := 2) rfl rfl) aB_mono aB_D hP hK hD hS rfl hl.1 rfl (Nat.le_of_ble_eq_true rfl) dX1_addPlace_31 ⟨Nat.le_of_ble_eq_true rfl, Nat.le_of_ble_eq_true rfl⟩ (fun v69 H locs hq68 hP hD hS => ?_)
      obtain ⟨h70, ht71⟩ := hq68
      have h70 := h70.trans h48
      refine lv_iload_n hx hb dX1_addPlace_34 rfl (lv_at hl 1 rfl) ?_
      refine lv_bipush (v := 10) hx hb dX1_addPlace_35 (by decide) ?_
      refine lv_icmp_lt (tgt := 51) hx hb dX1_addPlace_37 (by decide) (fun c72 => ?_) (fun c72 => ?_)
      · refine lv_aload_n hx hb dX1_addPlace_51 rfl (lv_at hl 0 rfl) ?_
        refine lv_iload_n hx hb dX1_addPlace_52 rfl (lv_at hl 1 rfl) ?_
        refine lv_bipush (v := 10) hx hb dX1_addPlace_53 (by decide) ?_
        refine lv_irem hx hb dX1_addPlace_55 (by decide) ?_
        refine gVv (As := [.int (p0 - p0 / 10 * 10)]) (rest := []) ⟨hx, hb, hml, hown, hts⟩ (c_X1_addDigit l dC dI A v69 ht71 (p0 - p0 / 10 * 10)) (cwV 1 hts (gi_V hbc tw_218 tw_220 ts_3 tw_3 tw_221) rfl rfl rfl (by decide +kernel) ⟨Nat.le_of_ble_eq_true rfl, Nat.le_of_ble_eq_true rfl⟩) (va_recv hK hP (ci := 1) (q0 := 2) rfl rfl) aB_mono aB_D hP hK hD hS rfl hl.1 rfl (Nat.le_of_ble_eq_true rfl) dX1_addPlace_56 ⟨Nat.le_of_ble_eq_true rfl, Nat.le_of_ble_eq_true rfl⟩ (fun v75 H locs hq74 hP hD hS => ?_)
        obtain ⟨h76, ht77⟩ := hq74
        have h76 := h76.trans h70
        exact W.vret hx hb hr (fun t9 ht9 hW => ⟨⟨v75, rfl, ⟨h76, by unfold apT ap3 ap2 ap1; rw [if_neg c1, if_neg c50, if_pos c72]; exact ht77⟩, by rw [ht9]; exact hP, va_K.moved hW.alike hK, hD⟩, hS.F ht9⟩) hS.2.2 dX1_addPlace_59
      · refine lv_aload_n hx hb dX1_addPlace_40 rfl (lv_at hl 0 rfl) ?_
        refine lv_iload_n hx hb dX1_addPlace_41 rfl (lv_at hl 1 rfl) ?_
        refine lv_bipush (v := 10) hx hb dX1_addPlace_42 (by decide) ?_
        refine lv_idiv hx hb dX1_addPlace_44 (by decide) ?_
        refine lv_bipush (v := 10) hx hb dX1_addPlace_45 (by decide) ?_
        refine lv_irem hx hb dX1_addPlace_47 (by decide) ?_
        refine gVv (As := [.int ((p0 / 10) - (p0 / 10) / 10 * 10)]) (rest := []) ⟨hx, hb, hml, hown, hts⟩ (c_X1_addDigit l dC dI A v69 ht71 ((p0 / 10) - (p0 / 10) / 10 * 10)) (cwV 1 hts (gi_V hbc tw_218 tw_220 ts_3 tw_3 tw_221) rfl rfl rfl (by decide +kernel) ⟨Nat.le_of_ble_eq_true rfl, Nat.le_of_ble_eq_true rfl⟩) (va_recv hK hP (ci := 1) (q0 := 2) rfl rfl) aB_mono aB_D hP hK hD hS rfl hl.1 rfl (Nat.le_of_ble_eq_true rfl) dX1_addPlace_48 ⟨Nat.le_of_ble_eq_true rfl, Nat.le_of_ble_eq_true rfl⟩ (fun v80 H locs hq79 hP hD hS => ?_)
        obtain ⟨h81, ht82⟩ := hq79
        have h81 := h81.trans h70
        refine lv_aload_n hx hb dX1_addPlace_51 rfl (lv_at hl 0 rfl) ?_
        refine lv_iload_n hx hb dX1_addPlace_52 rfl (lv_at hl 1 rfl) ?_
        refine lv_bipush (v := 10) hx hb dX1_addPlace_53 (by decide) ?_
        refine lv_irem hx hb dX1_addPlace_55 (by decide) ?_
        refine gVv (As := [.int (p0 - p0 / 10 * 10)]) (rest := []) ⟨hx, hb, hml, hown, hts⟩ (c_X1_addDigit l dC dI A v80 ht82 (p0 - p0 / 10 * 10)) (cwV 1 hts (gi_V hbc tw_218 tw_220 ts_3 tw_3 tw_221) rfl rfl rfl (by decide +kernel) ⟨Nat.le_of_ble_eq_true rfl, Nat.le_of_ble_eq_true rfl⟩) (va_recv hK hP (ci := 1) (q0 := 2) rfl rfl) aB_mono aB_D hP hK hD hS rfl hl.1 rfl (Nat.le_of_ble_eq_true rfl) dX1_addPlace_56 ⟨Nat.le_of_ble_eq_true rfl, Nat.le_of_ble_eq_true rfl⟩ (fun v85 H locs hq84 hP hD hS => ?_)
        obtain ⟨h86, ht87⟩ := hq84
        have h86 := h86.trans h81
        exact W.vret hx hb hr (fun t9 ht9 hW => ⟨⟨v85, rfl, ⟨h86, by unfold apT ap3 ap2 ap1; rw [if_neg c1, if_neg c50, if_neg c72]; exact ht87⟩, by rw [ht9]; exact hP, va_K.moved hW.alike hK, hD⟩, hS.F ht9⟩) hS.2.2 dX1_addPlace_59
set_option maxHeartbeats 4000000 in
set_option maxRecDepth 100000 in
theorem c_X1_write (l : Launch) (dC : Nat → ClassId) (dI : Nat → Nat → Nat) (A : AdB) (u : StB) {j : Nat} (hj : j < 4) : gMv l yX1_write wX1_write ({ frames := 3, cells := 0, slots := 0, locals := 63 }) (dC, dI) bwCl (tyB A) (wB A) (aB A) [.ref (ag_ A), .ref (ar_ A j)] u (fun v => v.1 = u.1 ∧ txB v (wrT (u.1 j))) := by
  unfold gMv
  intro sz
  refine Met.ofW (cc := cX1_write) (maxL := 3) (ret := none) (by decide) rfl ?_
  intro p e s m args below meth c s₁ B hml hv
  obtain ⟨rfl, hsz, hP, hK, hD⟩ := hv
  subst hsz
  have hS : va_S (aB A s.heap.size) s.heap s.heap [] := va_S.rf
  have hx := B.exec
  have hb := B.bytes
  have hr := B.returns
  have hts := atoms_spec (ws := wX1_write) B.pre
  have hw : ∀ w ∈ tg_, w.before _ s = true := fun w h => hts w (List.mem_cons_of_mem _ h)
  have hown : s.vm.findClass RX1 = some m.cls := findClass_of_methodNamed B.named
  have hlocks := B.notSynchronized
  have hl := lv_entry ([.ref (ag_ A), .ref (ar_ A j)]) (n := 3) (Nat.le_of_ble_eq_true rfl)
  rw [lg_entry_eq]
  generalize (lg_sl ([.ref (ag_ A), .ref (ar_ A j)]) ++ List.replicate (3 - (lg_sl ([.ref (ag_ A), .ref (ar_ A j)])).length) Slot.unset).toArray = ls at hl ⊢
  have hl : lv_has ls 3 [(0, .ref (ag_ A)), (1, .ref (ar_ A j))] := hl
  refine lv_aload_n hx hb dX1_write_0 rfl (lv_at hl 0 rfl) ?_
  refine lv_iconst (v := 0) hx hb dX1_write_1 (by decide) ?_
  refine va_put (D := (dC, dI)) (ci := 1) (v := .int 0) (ty := .int) (C := RX1) (T := TX1) (N := 2) hx hb hw igX1 tyX1 tyX1_ok nmX1 hown hK hP hD hS 2 rfl rfl 1 (by decide) (hw _ tw_34) (fun _ h9 => h9) rfl (by decide +kernel) rfl rfl (Nat.le_of_ble_eq_true rfl) dX1_write_2 (fun H locs hP hD hS => ?_)
  have hP : va_P (dC, dI) bwCl (wB A (u.1, u.2.1, 0)) H := hP
  have hD : va_D (aB A s.heap.size) (wB A (u.1, u.2.1, 0)) := hD
  refine lv_aload_n hx hb dX1_write_5 rfl (lv_at hl 0 rfl) ?_
  refine lv_bipush (v := 123) hx hb dX1_write_6 (by decide) ?_
  refine gVv (As := [.int 123]) (rest := []) ⟨hx, hb, hml, hown, hts⟩ (c_X1_add l dC dI A (u.1, u.2.1, 0) (tx_nil _ _) 123) (cwV 1 hts (gi_V hbc tw_209 tw_211 ts_1 tw_3 tw_212) rfl rfl rfl (by decide +kernel) ⟨Nat.le_of_ble_eq_true rfl, Nat.le_of_ble_eq_true rfl⟩) (va_recv hK hP (ci := 1) (q0 := 2) rfl rfl) aB_mono aB_D hP hK hD hS rfl hl.1 rfl (Nat.le_of_ble_eq_true rfl) dX1_write_8 ⟨Nat.le_of_ble_eq_true rfl, Nat.le_of_ble_eq_true rfl⟩ (fun v3 H locs hq2 hP hD hS => ?_)
  obtain ⟨h4, ht5⟩ := hq2
  refine lv_iconst (v := 0) hx hb dX1_write_11 (by decide) ?_
  refine lv_istore_n (lv' := [(2, .int 0), (0, .ref (ag_ A)), (1, .ref (ar_ A j))]) hx hb dX1_write_12 rfl hl (by decide) rfl (fun ls hl => ?_)
  refine w_loop (N := 128) (i0 := 0) (fun i H locs ls => ∃ v : StB, va_P (dC, dI) bwCl (wB A v) H ∧ va_D (aB A s.heap.size) (wB A v) ∧ va_S (aB A s.heap.size) s.heap H locs ∧ lv_has ls 3 [(0, .ref (ag_ A)), (1, .ref (ar_ A j)), (2, .int (nI i))] ∧ v.1 = u.1 ∧ txB v (wrL (u.1 j) i)) (by decide) ⟨v3, hP, hD, hS, lv_sub hl [1, 2, 0] rfl, h4, ht5⟩ ?_
  intro i H locs ls hz_i hi_i hI ih_i
  obtain ⟨v, hP, hD, hS, hl, hF_i⟩ := hI
  obtain ⟨hF1, hF2⟩ := hF_i
  refine lv_iload_n hx hb dX1_write_13 rfl (lv_at hl 2 rfl) ?_
  refine lv_sipush (v := 128) hx hb dX1_write_14 (by decide) ?_
  refine lv_icmp_ge (tgt := 40) hx hb dX1_write_17 (by decide) (fun c6 => ?_) (fun c6 => ?_)
  · obtain rfl : i = 128 := lp_out (n := 128) rfl hi_i (by decide) c6
    refine lv_aload_n hx hb dX1_write_40 rfl (lv_at hl 0 rfl) ?_
    refine lv_bipush (v := 125) hx hb dX1_write_41 (by decide) ?_
    refine gVv (As := [.int 125]) (rest := []) ⟨hx, hb, hml, hown, hts⟩ (c_X1_add l dC dI A v hF2 125) (cwV 1 hts (gi_V hbc tw_209 tw_211 ts_1 tw_3 tw_212) rfl rfl rfl (by decide +kernel) ⟨Nat.le_of_ble_eq_true rfl, Nat.le_of_ble_eq_true rfl⟩) (va_recv hK hP (ci := 1) (q0 := 2) rfl rfl) aB_mono aB_D hP hK hD hS rfl hl.1 rfl (Nat.le_of_ble_eq_true rfl) dX1_write_43 ⟨Nat.le_of_ble_eq_true rfl, Nat.le_of_ble_eq_true rfl⟩ (fun v9 H locs hq8 hP hD hS => ?_)
    obtain ⟨h10, ht11⟩ := hq8
    have h10 := h10.trans hF1
    exact W.vret hx hb hr (fun t9 ht9 hW => ⟨⟨v9, rfl, ⟨h10, ht11⟩, by rw [ht9]; exact hP, va_K.moved hW.alike hK, hD⟩, hS.F ht9⟩) hS.2.2 dX1_write_46
  · have hlt_i : i < 128 := lp_in (n := 128) rfl hi_i c6
    refine lv_aload_n hx hb dX1_write_20 rfl (lv_at hl 1 rfl) ?_
    refine lv_iload_n hx hb dX1_write_21 rfl (lv_at hl 2 rfl) ?_
    refine gVi (As := [.int (nI i)]) (rest := []) ⟨hx, hb, hml, hown, hts⟩ (c_X0_bit l dC dI A v hj (nI i)) (cwV 1 hts (gi_V hbc tw_213 tw_62 tw_63 tw_2 tw_64) rfl rfl rfl (by decide +kernel) ⟨Nat.le_of_ble_eq_true rfl, Nat.le_of_ble_eq_true rfl⟩) (va_recv hK hP (ci := 0) (q0 := (4 + j)) rfl (wB_row A v hj)) aB_mono aB_D hP hK hD hS rfl hl.1 rfl (Nat.le_of_ble_eq_true rfl) dX1_write_22 ⟨Nat.le_of_ble_eq_true rfl, Nat.le_of_ble_eq_true rfl⟩ (fun r12 v14 H locs hq13 hP hD hS => ?_)
    obtain ⟨rfl, rfl⟩ := hq13
    refine lv_iconst (v := 1) hx hb dX1_write_25 (by decide) ?_
    refine lv_icmp_ne (tgt := 34) hx hb dX1_write_26 (by decide) (fun c15 => ?_) (fun c15 => ?_)
    · rw [hF1] at c15
      refine lv_iinc (v := nI (i + 1)) (lv' := [(2, .int (nI (i + 1))), (0, .ref (ag_ A)), (1, .ref (ar_ A j))]) hx hb dX1_write_34 hl (k := 2) rfl (nI_1 _) (by decide) rfl (fun ls hl => ?_)
      refine lv_goto (tgt := 13) hx hb dX1_write_37 (by decide) ?_
      exact ih_i _ _ _ (by omega) ⟨v, hP, hD, hS, lv_sub hl [1, 2, 0] rfl, hF1, by unfold wrL; rw [if_neg c15]; exact hF2⟩
    · rw [hF1] at c15
      refine lv_aload_n hx hb dX1_write_29 rfl (lv_at hl 0 rfl) ?_
      refine lv_iload_n hx hb dX1_write_30 rfl (lv_at hl 2 rfl) ?_
      refine gVv (As := [.int (nI i)]) (rest := []) ⟨hx, hb, hml, hown, hts⟩ (c_X1_addPlace l dC dI A v hF2 (nI i)) (cwV 1 hts (gi_V hbc tw_214 tw_216 ts_2 tw_3 tw_217) rfl rfl rfl (by decide +kernel) ⟨Nat.le_of_ble_eq_true rfl, Nat.le_of_ble_eq_true rfl⟩) (va_recv hK hP (ci := 1) (q0 := 2) rfl rfl) aB_mono aB_D hP hK hD hS rfl hl.1 rfl (Nat.le_of_ble_eq_true rfl) dX1_write_31 ⟨Nat.le_of_ble_eq_true rfl, Nat.le_of_ble_eq_true rfl⟩ (fun v18 H locs hq17 hP hD hS => ?_)
      obtain ⟨h19, ht20⟩ := hq17
      have h19 := h19.trans hF1
      refine lv_iinc (v := nI (i + 1)) (lv' := [(2, .int (nI (i + 1))), (0, .ref (ag_ A)), (1, .ref (ar_ A j))]) hx hb dX1_write_34 hl (k := 2) rfl (nI_1 _) (by decide) rfl (fun ls hl => ?_)
      refine lv_goto (tgt := 13) hx hb dX1_write_37 (by decide) ?_
      exact ih_i _ _ _ (by omega) ⟨v18, hP, hD, hS, lv_sub hl [1, 2, 0] rfl, h19, by unfold wrL; rw [if_pos c15]; exact ht20⟩
end
section
set_option maxHeartbeats 4000000 in
set_option maxRecDepth 100000 in
theorem c_X2_set (l : Launch) (dC : Nat → ClassId) (dI : Nat → Nat → Nat) (A : AdB) (u : StB) (p0 : Int32) (p1 : Int32) (p2 : Int32) : gMi l yX2_set wX2_set ({ frames := 2, cells := 0, slots := 0, locals := 50 }) (dC, dI) bwCl (tyB A) (wB A) (aB A) [.ref (ah_ A), .int p0, .int p1, .int p2] u (fun r v => ((¬ (fX2_isRow p0) = 0 ∧ ¬ (fX2_isChange p1) = 0 ∧ ¬ (fX2_isPlace p2) = 0) ∧ (r = fX0_bit (u.1 p0.toNatClampNeg) p2 ∧ ((upM u.1 p0.toNatClampNeg (fl (chW (u.1 p0.toNatClampNeg) p1 p2 (p2 + 1)) (u.1 p0.toNatClampNeg) 63), u.2) : StB) = v)) ∨ (¬ (¬ (fX2_isRow p0) = 0 ∧ ¬ (fX2_isChange p1) = 0 ∧ ¬ (fX2_isPlace p2) = 0) ∧ r = -2 ∧ u = v)) := by
  unfold gMi
  intro sz
  refine Met.ofW (cc := cX2_set) (maxL := 5) (ret := (some .int)) (by decide) rfl ?_
  intro p e s m args below meth c s₁ B hml hv
  obtain ⟨rfl, hsz, hP, hK, hD⟩ := hv
  subst hsz
  have hS : va_S (aB A s.heap.size) s.heap s.heap [] := va_S.rf
  have hx := B.exec
  have hb := B.bytes
  have hr := B.returns
  have hts := atoms_spec (ws := wX2_set) B.pre
  have hw : ∀ w ∈ tg_, w.before _ s = true := fun w h => hts w (List.mem_cons_of_mem _ h)
  have hown : s.vm.findClass RX2 = some m.cls := findClass_of_methodNamed B.named
  have hlocks := B.notSynchronized
  have hl := lv_entry ([.ref (ah_ A), .int p0, .int p1, .int p2]) (n := 5) (Nat.le_of_ble_eq_true rfl)
  rw [lg_entry_eq]
  generalize (lg_sl ([.ref (ah_ A), .int p0, .int p1, .int p2]) ++ List.replicate (5 - (lg_sl ([.ref (ah_ A), .int p0, .int p1, .int p2])).length) Slot.unset).toArray = ls at hl ⊢
  have hl : lv_has ls 5 [(0, .ref (ah_ A)), (1, .int p0), (2, .int p1), (3, .int p2)] := hl
  refine lv_iload_n hx hb dX2_set_0 rfl (lv_at hl 1 rfl) ?_
  refine vp_callSi (W.runS (As := [.int p0]) (rest := []) ⟨hx, hb, hml, hown, hts⟩ (c_X2_isRow l p0) (va_cwS 1 hts (gi_S hbc tw_52 tw_53 tw_1 tw_54) rfl rfl rfl (by decide +kernel) ⟨Nat.le_of_ble_eq_true rfl, Nat.le_of_ble_eq_true rfl⟩) preEq rfl rfl hl.1 rfl (lv_room (Nat.le_of_ble_eq_true rfl)) dX2_set_1 ⟨Nat.le_of_ble_eq_true rfl, Nat.le_of_ble_eq_true rfl⟩) (fun r hq => ?_)
  subst hq
  refine lv_if_eq (tgt := 21) hx hb dX2_set_4 (by decide) (fun c1 => ?_) (fun c1 => ?_)
  · refine lv_bipush (v := -2) hx hb dX2_set_21 (by decide) ?_
    exact W.iret hx hb hr (fun t9 ht9 hW => ⟨⟨_, u, rfl, Or.inr ⟨fun h => h.1 c1, rfl, rfl⟩, by rw [ht9]; exact hP, va_K.moved hW.alike hK, hD⟩, hS.F ht9⟩) hS.2.2 dX2_set_23
  · have hj_p0 := row_lt c1
    refine lv_iload_n hx hb dX2_set_7 rfl (lv_at hl 2 rfl) ?_
    refine vp_callSi (W.runS (As := [.int p1]) (rest := []) ⟨hx, hb, hml, hown, hts⟩ (c_X2_isChange l p1) (va_cwS 1 hts (gi_S hbc tw_55 tw_56 tw_1 tw_57) rfl rfl rfl (by decide +kernel) ⟨Nat.le_of_ble_eq_true rfl, Nat.le_of_ble_eq_true rfl⟩) preEq rfl rfl hl.1 rfl (lv_room (Nat.le_of_ble_eq_true rfl)) dX2_set_8 ⟨Nat.le_of_ble_eq_true rfl, Nat.le_of_ble_eq_true rfl⟩) (fun r hq => ?_)
    subst hq
    refine lv_if_eq (tgt := 21) hx hb dX2_set_11 (by decide) (fun c2 => ?_) (fun c2 => ?_)
    · refine lv_bipush (v := -2) hx hb dX2_set_21 (by decide) ?_
      exact W.iret hx hb hr (fun t9 ht9 hW => ⟨⟨_, u, rfl, Or.inr ⟨fun h => h.2.1 c2, rfl, rfl⟩, by rw [ht9]; exact hP, va_K.moved hW.alike hK, hD⟩, hS.F ht9⟩) hS.2.2 dX2_set_23
    · refine lv_iload_n hx hb dX2_set_14 rfl (lv_at hl 3 rfl) ?_
      refine vp_callSi (W.runS (As := [.int p2]) (rest := []) ⟨hx, hb, hml, hown, hts⟩ (c_X2_isPlace l p2) (va_cwS 1 hts (gi_S hbc tw_58 tw_59 tw_1 tw_60) rfl rfl rfl (by decide +kernel) ⟨Nat.le_of_ble_eq_true rfl, Nat.le_of_ble_eq_true rfl⟩) preEq rfl rfl hl.1 rfl (lv_room (Nat.le_of_ble_eq_true rfl)) dX2_set_15 ⟨Nat.le_of_ble_eq_true rfl, Nat.le_of_ble_eq_true rfl⟩) (fun r hq => ?_)
      subst hq
      refine lv_if_ne (tgt := 24) hx hb dX2_set_18 (by decide) (fun c3 => ?_) (fun c3 => ?_)
      · refine lv_aload_n hx hb dX2_set_24 rfl (lv_at hl 0 rfl) ?_
        refine va_get (D := (dC, dI)) (ci := 2) (v := .ref (aq_ A)) (C := RX2) (T := TX2) (N := 2) hx hb hw igX2 hown hK hP 0 rfl rfl 0 (by decide) (hw _ tw_41) (fun _ h9 => h9) rfl dX2_set_25 ?_
        refine lv_iload_n hx hb dX2_set_28 rfl (lv_at hl 1 rfl) ?_
        refine va_aldq hx hb hK hP 1 0 rfl rfl (row_in c1) dX2_set_29 ?_
        rw [rwF_at A hj_p0]
        refine lv_iload_n hx hb dX2_set_30 rfl (lv_at hl 3 rfl) ?_
        refine gVi (As := [.int p2]) (rest := []) ⟨hx, hb, hml, hown, hts⟩ (c_X0_bit l dC dI A u hj_p0 p2) (cwV 1 hts (gi_V hbc tw_61 tw_62 tw_63 tw_2 tw_64) rfl rfl rfl (by decide +kernel) ⟨Nat.le_of_ble_eq_true rfl, Nat.le_of_ble_eq_true rfl⟩) (va_recv hK hP (ci := 0) (q0 := (4 + p0.toNatClampNeg)) rfl (wB_row A u hj_p0)) aB_mono aB_D hP hK hD hS rfl hl.1 rfl (Nat.le_of_ble_eq_true rfl) dX2_set_31 ⟨Nat.le_of_ble_eq_true rfl, Nat.le_of_ble_eq_true rfl⟩ (fun r4 v6 H locs hq5 hP hD hS => ?_)
        obtain ⟨rfl, rfl⟩ := hq5
        refine lv_istore (lv' := [(4, .int (fX0_bit (u.1 p0.toNatClampNeg) p2)), (0, .ref (ah_ A)), (1, .int p0), (2, .int p1), (3, .int p2)]) hx hb dX2_set_34 hl (by decide) rfl (fun ls hl => ?_)
        refine lv_aload_n hx hb dX2_set_36 rfl (lv_at hl 1 rfl) ?_
        refine va_get (D := (dC, dI)) (ci := 2) (v := .ref (aq_ A)) (C := RX2) (T := TX2) (N := 2) hx hb hw igX2 hown hK hP 0 rfl rfl 0 (by decide) (hw _ tw_41) (fun _ h9 => h9) rfl dX2_set_37 ?_
        refine lv_iload_n hx hb dX2_set_40 rfl (lv_at hl 2 rfl) ?_
        refine va_aldq hx hb hK hP 1 0 rfl rfl (row_in c1) dX2_set_41 ?_
        rw [rwF_at A hj_p0]
        refine lv_iload_n hx hb dX2_set_42 rfl (lv_at hl 3 rfl) ?_
        refine lv_iload_n hx hb dX2_set_43 rfl (lv_at hl 4 rfl) ?_
        refine lv_iload_n hx hb dX2_set_44 rfl (lv_at hl 4 rfl) ?_
        refine lv_iconst (v := 1) hx hb dX2_set_45 (by decide) ?_
        refine lv_iadd hx hb dX2_set_46 ?_
        refine gVv (As := [.int p1, .int p2, .int (p2 + 1)]) (rest := []) ⟨hx, hb, hml, hown, hts⟩ (c_X0_change l dC dI A u hj_p0 p1 p2 (p2 + 1)) (cwV 3 hts (gi_V hbc tw_69 tw_70 tw_71 tw_2 tw_72) rfl rfl rfl (by decide +kernel) ⟨Nat.le_of_ble_eq_true rfl, Nat.le_of_ble_eq_true rfl⟩) (va_recv hK hP (ci := 0) (q0 := (4 + p0.toNatClampNeg)) rfl (wB_row A u hj_p0)) aB_mono aB_D hP hK hD hS rfl hl.1 rfl (Nat.le_of_ble_eq_true rfl) dX2_set_47 ⟨Nat.le_of_ble_eq_true rfl, Nat.le_of_ble_eq_true rfl⟩ (fun v9 H locs hq8 hP hD hS => ?_)
        obtain rfl := hq8
        refine lv_iload hx hb dX2_set_50 (lv_at hl 0 rfl) ?_
        exact W.iret hx hb hr (fun t9 ht9 hW => ⟨⟨_, (upM u.1 p0.toNatClampNeg (fl (chW (u.1 p0.toNatClampNeg) p1 p2 (p2 + 1)) (u.1 p0.toNatClampNeg) 63), u.2), rfl, Or.inl ⟨⟨c1, c2, c3⟩, ⟨rfl, rfl⟩⟩, by rw [ht9]; exact hP, va_K.moved hW.alike hK, hD⟩, hS.F ht9⟩) hS.2.2 dX2_set_52
      · refine lv_bipush (v := -2) hx hb dX2_set_21 (by decide) ?_
        exact W.iret hx hb hr (fun t9 ht9 hW => ⟨⟨_, u, rfl, Or.inr ⟨fun h => h.2.2 c3, rfl, rfl⟩, by rw [ht9]; exact hP, va_K.moved hW.alike hK, hD⟩, hS.F ht9⟩) hS.2.2 dX2_set_23
set_option maxHeartbeats 4000000 in
set_option maxRecDepth 100000 in
theorem c_X2_piece (l : Launch) (dC : Nat → ClassId) (dI : Nat → Nat → Nat) (A : AdB) (u : StB) (p0 : Int32) (p1 : Int32) (p2 : Int32) (p3 : Int32) : gMi l yX2_piece wX2_piece ({ frames := 2, cells := 0, slots := 0, locals := 50 }) (dC, dI) bwCl (tyB A) (wB A) (aB A) [.ref (ah_ A), .int p0, .int p1, .int p2, .int p3] u (fun r v => ((¬ (fX2_isRow p0) = 0 ∧ ¬ (fX2_isChange p1) = 0 ∧ ¬ (fX2_isPiece p2 p3) = 0) ∧ (r = fX0_ones (((upM u.1 p0.toNatClampNeg (fl (chW (u.1 p0.toNatClampNeg) p1 p2 p3) (u.1 p0.toNatClampNeg) 63), u.2) : StB).1 p0.toNatClampNeg) ∧ ((upM u.1 p0.toNatClampNeg (fl (chW (u.1 p0.toNatClampNeg) p1 p2 p3) (u.1 p0.toNatClampNeg) 63), u.2) : StB) = v)) ∨ (¬ (¬ (fX2_isRow p0) = 0 ∧ ¬ (fX2_isChange p1) = 0 ∧ ¬ (fX2_isPiece p2 p3) = 0) ∧ r = -2 ∧ u = v)) := by
  unfold gMi
  intro sz
  refine Met.ofW (cc := cX2_piece) (maxL := 5) (ret := (some .int)) (by decide) rfl ?_
  intro p e s m args below meth c s₁ B hml hv
  obtain ⟨rfl, hsz, hP, hK, hD⟩ := hv
  subst hsz
  have hS : va_S (aB A s.heap.size) s.heap s.heap [] := va_S.rf
  have hx := B.exec
  have hb := B.bytes
  have hr := B.returns
  have hts := atoms_spec (ws := wX2_piece) B.pre
  have hw : ∀ w ∈ tg_, w.before _ s = true := fun w h => hts w (List.mem_cons_of_mem _ h)
  have hown : s.vm.findClass RX2 = some m.cls := findClass_of_methodNamed B.named
  have hlocks := B.notSynchronized
  have hl := lv_entry ([.ref (ah_ A), .int p0, .int p1, .int p2, .int p3]) (n := 5) (Nat.le_of_ble_eq_true rfl)
  rw [lg_entry_eq]
  generalize (lg_sl ([.ref (ah_ A), .int p0, .int p1, .int p2, .int p3]) ++ List.replicate (5 - (lg_sl ([.ref (ah_ A), .int p0, .int p1, .int p2, .int p3])).length) Slot.unset).toArray = ls at hl ⊢
  have hl : lv_has ls 5 [(0, .ref (ah_ A)), (1, .int p0), (2, .int p1), (3, .int p2), (4, .int p3)] := hl
  refine lv_iload_n hx hb dX2_piece_0 rfl (lv_at hl 1 rfl) ?_
  refine vp_callSi (W.runS (As := [.int p0]) (rest := []) ⟨hx, hb, hml, hown, hts⟩ (c_X2_isRow l p0) (va_cwS 1 hts (gi_S hbc tw_52 tw_53 tw_1 tw_54) rfl rfl rfl (by decide +kernel) ⟨Nat.le_of_ble_eq_true rfl, Nat.le_of_ble_eq_true rfl⟩) preEq rfl rfl hl.1 rfl (lv_room (Nat.le_of_ble_eq_true rfl)) dX2_piece_1 ⟨Nat.le_of_ble_eq_true rfl, Nat.le_of_ble_eq_true rfl⟩) (fun r hq => ?_)
  subst hq
  refine lv_if_eq (tgt := 23) hx hb dX2_piece_4 (by decide) (fun c1 => ?_) (fun c1 => ?_)
  · refine lv_bipush (v := -2) hx hb dX2_piece_23 (by decide) ?_
    exact W.iret hx hb hr (fun t9 ht9 hW => ⟨⟨_, u, rfl, Or.inr ⟨fun h => h.1 c1, rfl, rfl⟩, by rw [ht9]; exact hP, va_K.moved hW.alike hK, hD⟩, hS.F ht9⟩) hS.2.2 dX2_piece_25
  · have hj_p0 := row_lt c1
    refine lv_iload_n hx hb dX2_piece_7 rfl (lv_at hl 2 rfl) ?_
    refine vp_callSi (W.runS (As := [.int p1]) (rest := []) ⟨hx, hb, hml, hown, hts⟩ (c_X2_isChange l p1) (va_cwS 1 hts (gi_S hbc tw_55 tw_56 tw_1 tw_57) rfl rfl rfl (by decide +kernel) ⟨Nat.le_of_ble_eq_true rfl, Nat.le_of_ble_eq_true rfl⟩) preEq rfl rfl hl.1 rfl (lv_room (Nat.le_of_ble_eq_true rfl)) dX2_piece_8 ⟨Nat.le_of_ble_eq_true rfl, Nat.le_of_ble_eq_true rfl⟩) (fun r hq => ?_)
    subst hq
    refine lv_if_eq (tgt := 23) hx hb dX2_piece_11 (by decide) (fun c2 => ?_) (fun c2 => ?_)
    · refine lv_bipush (v := -2) hx hb dX2_piece_23 (by decide) ?_
      exact W.iret hx hb hr (fun t9 ht9 hW => ⟨⟨_, u, rfl, Or.inr ⟨fun h => h.2.1 c2, rfl, rfl⟩, by rw [ht9]; exact hP, va_K.moved hW.alike hK, hD⟩, hS.F ht9⟩) hS.2.2 dX2_piece_25
    · refine lv_iload_n hx hb dX2_piece_14 rfl (lv_at hl 3 rfl) ?_
      refine lv_iload hx hb dX2_piece_15 (lv_at hl 4 rfl) ?_
      refine vp_callSi (W.runS (As := [.int p2, .int p3]) (rest := []) ⟨hx, hb, hml, hown, hts⟩ (c_X2_isPiece l p2 p3) (va_cwS 2 hts (gi_S hbc tw_84 tw_85 tw_1 tw_86) rfl rfl rfl (by decide +kernel) ⟨Nat.le_of_ble_eq_true rfl, Nat.le_of_ble_eq_true rfl⟩) preEq rfl rfl hl.1 rfl (lv_room (Nat.le_of_ble_eq_true rfl)) dX2_piece_17 ⟨Nat.le_of_ble_eq_true rfl, Nat.le_of_ble_eq_true rfl⟩) (fun r hq => ?_)
      subst hq
      refine lv_if_ne (tgt := 26) hx hb dX2_piece_20 (by decide) (fun c3 => ?_) (fun c3 => ?_)
      · refine lv_aload_n hx hb dX2_piece_26 rfl (lv_at hl 0 rfl) ?_
        refine va_get (D := (dC, dI)) (ci := 2) (v := .ref (aq_ A)) (C := RX2) (T := TX2) (N := 2) hx hb hw igX2 hown hK hP 0 rfl rfl 0 (by decide) (hw _ tw_41) (fun _ h9 => h9) rfl dX2_piece_27 ?_
        refine lv_iload_n hx hb dX2_piece_30 rfl (lv_at hl 1 rfl) ?_
        refine va_aldq hx hb hK hP 1 0 rfl rfl (row_in c1) dX2_piece_31 ?_
        rw [rwF_at A hj_p0]
        refine lv_iload_n hx hb dX2_piece_32 rfl (lv_at hl 2 rfl) ?_
        refine lv_iload_n hx hb dX2_piece_33 rfl (lv_at hl 3 rfl) ?_
        refine lv_iload hx hb dX2_piece_34 (lv_at hl 4 rfl) ?_
        refine gVv (As := [.int p1, .int p2, .int p3]) (rest := []) ⟨hx, hb, hml, hown, hts⟩ (c_X0_change l dC dI A u hj_p0 p1 p2 p3) (cwV 3 hts (gi_V hbc tw_69 tw_70 tw_71 tw_2 tw_72) rfl rfl rfl (by decide +kernel) ⟨Nat.le_of_ble_eq_true rfl, Nat.le_of_ble_eq_true rfl⟩) (va_recv hK hP (ci := 0) (q0 := (4 + p0.toNatClampNeg)) rfl (wB_row A u hj_p0)) aB_mono aB_D hP hK hD hS rfl hl.1 rfl (Nat.le_of_ble_eq_true rfl) dX2_piece_36 ⟨Nat.le_of_ble_eq_true rfl, Nat.le_of_ble_eq_true rfl⟩ (fun v6 H locs hq5 hP hD hS => ?_)
        obtain rfl := hq5
        refine lv_aload_n hx hb dX2_piece_39 rfl (lv_at hl 0 rfl) ?_
        refine va_get (D := (dC, dI)) (ci := 2) (v := .ref (aq_ A)) (C := RX2) (T := TX2) (N := 2) hx hb hw igX2 hown hK hP 0 rfl rfl 0 (by decide) (hw _ tw_41) (fun _ h9 => h9) rfl dX2_piece_40 ?_
        refine lv_iload_n hx hb dX2_piece_43 rfl (lv_at hl 1 rfl) ?_
        refine va_aldq hx hb hK hP 1 0 rfl rfl (row_in c1) dX2_piece_44 ?_
        rw [rwF_at A hj_p0]
        refine gVi (As := []) (rest := []) ⟨hx, hb, hml, hown, hts⟩ (c_X0_ones l dC dI A (upM u.1 p0.toNatClampNeg (fl (chW (u.1 p0.toNatClampNeg) p1 p2 p3) (u.1 p0.toNatClampNeg) 63), u.2) hj_p0) (cwV 0 hts (gi_V hbc tw_87 tw_88 tw_89 tw_2 tw_90) rfl rfl rfl (by decide +kernel) ⟨Nat.le_of_ble_eq_true rfl, Nat.le_of_ble_eq_true rfl⟩) (va_recv hK hP (ci := 0) (q0 := (4 + p0.toNatClampNeg)) rfl (wB_row A (upM u.1 p0.toNatClampNeg (fl (chW (u.1 p0.toNatClampNeg) p1 p2 p3) (u.1 p0.toNatClampNeg) 63), u.2) hj_p0)) aB_mono aB_D hP hK hD hS rfl hl.1 rfl (Nat.le_of_ble_eq_true rfl) dX2_piece_45 ⟨Nat.le_of_ble_eq_true rfl, Nat.le_of_ble_eq_true rfl⟩ (fun r7 v9 H locs hq8 hP hD hS => ?_)
        obtain ⟨rfl, rfl⟩ := hq8
        exact W.iret hx hb hr (fun t9 ht9 hW => ⟨⟨_, (upM u.1 p0.toNatClampNeg (fl (chW (u.1 p0.toNatClampNeg) p1 p2 p3) (u.1 p0.toNatClampNeg) 63), u.2), rfl, Or.inl ⟨⟨c1, c2, c3⟩, ⟨rfl, rfl⟩⟩, by rw [ht9]; exact hP, va_K.moved hW.alike hK, hD⟩, hS.F ht9⟩) hS.2.2 dX2_piece_48
      · refine lv_bipush (v := -2) hx hb dX2_piece_23 (by decide) ?_
        exact W.iret hx hb hr (fun t9 ht9 hW => ⟨⟨_, u, rfl, Or.inr ⟨fun h => h.2.2 c3, rfl, rfl⟩, by rw [ht9]; exact hP, va_K.moved hW.alike hK, hD⟩, hS.F ht9⟩) hS.2.2 dX2_piece_25
set_option maxHeartbeats 4000000 in
set_option maxRecDepth 100000 in
theorem c_X2_get (l : Launch) (dC : Nat → ClassId) (dI : Nat → Nat → Nat) (A : AdB) (u : StB) (p0 : Int32) (p1 : Int32) : gMi l yX2_get wX2_get ({ frames := 2, cells := 0, slots := 0, locals := 42 }) (dC, dI) bwCl (tyB A) (wB A) (aB A) [.ref (ah_ A), .int p0, .int p1] u (fun r v => ((¬ (fX2_isRow p0) = 0 ∧ ¬ (fX2_isPlace p1) = 0) ∧ (r = fX0_bit (u.1 p0.toNatClampNeg) p1 ∧ u = v)) ∨ (¬ (¬ (fX2_isRow p0) = 0 ∧ ¬ (fX2_isPlace p1) = 0) ∧ r = -2 ∧ u = v)) := by
  unfold gMi
  intro sz
  refine Met.ofW (cc := cX2_get) (maxL := 3) (ret := (some .int)) (by decide) rfl ?_
  intro p e s m args below meth c s₁ B hml hv
  obtain ⟨rfl, hsz, hP, hK, hD⟩ := hv
  subst hsz
  have hS : va_S (aB A s.heap.size) s.heap s.heap [] := va_S.rf
  have hx := B.exec
  have hb := B.bytes
  have hr := B.returns
  have hts := atoms_spec (ws := wX2_get) B.pre
  have hw : ∀ w ∈ tg_, w.before _ s = true := fun w h => hts w (List.mem_cons_of_mem _ h)
  have hown : s.vm.findClass RX2 = some m.cls := findClass_of_methodNamed B.named
  have hlocks := B.notSynchronized
  have hl := lv_entry ([.ref (ah_ A), .int p0, .int p1]) (n := 3) (Nat.le_of_ble_eq_true rfl)
  rw [lg_entry_eq]
  generalize (lg_sl ([.ref (ah_ A), .int p0, .int p1]) ++ List.replicate (3 - (lg_sl ([.ref (ah_ A), .int p0, .int p1])).length) Slot.unset).toArray = ls at hl ⊢
  have hl : lv_has ls 3 [(0, .ref (ah_ A)), (1, .int p0), (2, .int p1)] := hl
  refine lv_iload_n hx hb dX2_get_0 rfl (lv_at hl 1 rfl) ?_
  refine vp_callSi (W.runS (As := [.int p0]) (rest := []) ⟨hx, hb, hml, hown, hts⟩ (c_X2_isRow l p0) (va_cwS 1 hts (gi_S hbc tw_52 tw_53 tw_1 tw_54) rfl rfl rfl (by decide +kernel) ⟨Nat.le_of_ble_eq_true rfl, Nat.le_of_ble_eq_true rfl⟩) preEq rfl rfl hl.1 rfl (lv_room (Nat.le_of_ble_eq_true rfl)) dX2_get_1 ⟨Nat.le_of_ble_eq_true rfl, Nat.le_of_ble_eq_true rfl⟩) (fun r hq => ?_)
  subst hq
  refine lv_if_eq (tgt := 14) hx hb dX2_get_4 (by decide) (fun c1 => ?_) (fun c1 => ?_)
  · refine lv_bipush (v := -2) hx hb dX2_get_14 (by decide) ?_
    exact W.iret hx hb hr (fun t9 ht9 hW => ⟨⟨_, u, rfl, Or.inr ⟨fun h => h.1 c1, rfl, rfl⟩, by rw [ht9]; exact hP, va_K.moved hW.alike hK, hD⟩, hS.F ht9⟩) hS.2.2 dX2_get_16
  · have hj_p0 := row_lt c1
    refine lv_iload_n hx hb dX2_get_7 rfl (lv_at hl 2 rfl) ?_
    refine vp_callSi (W.runS (As := [.int p1]) (rest := []) ⟨hx, hb, hml, hown, hts⟩ (c_X2_isPlace l p1) (va_cwS 1 hts (gi_S hbc tw_58 tw_59 tw_1 tw_60) rfl rfl rfl (by decide +kernel) ⟨Nat.le_of_ble_eq_true rfl, Nat.le_of_ble_eq_true rfl⟩) preEq rfl rfl hl.1 rfl (lv_room (Nat.le_of_ble_eq_true rfl)) dX2_get_8 ⟨Nat.le_of_ble_eq_true rfl, Nat.le_of_ble_eq_true rfl⟩) (fun r hq => ?_)
    subst hq
    refine lv_if_ne (tgt := 17) hx hb dX2_get_11 (by decide) (fun c2 => ?_) (fun c2 => ?_)
    · refine lv_aload_n hx hb dX2_get_17 rfl (lv_at hl 0 rfl) ?_
      refine va_get (D := (dC, dI)) (ci := 2) (v := .ref (aq_ A)) (C := RX2) (T := TX2) (N := 2) hx hb hw igX2 hown hK hP 0 rfl rfl 0 (by decide) (hw _ tw_41) (fun _ h9 => h9) rfl dX2_get_18 ?_
      refine lv_iload_n hx hb dX2_get_21 rfl (lv_at hl 1 rfl) ?_
      refine va_aldq hx hb hK hP 1 0 rfl rfl (row_in c1) dX2_get_22 ?_
      rw [rwF_at A hj_p0]
      refine lv_iload_n hx hb dX2_get_23 rfl (lv_at hl 2 rfl) ?_
      refine gVi (As := [.int p1]) (rest := []) ⟨hx, hb, hml, hown, hts⟩ (c_X0_bit l dC dI A u hj_p0 p1) (cwV 1 hts (gi_V hbc tw_61 tw_62 tw_63 tw_2 tw_64) rfl rfl rfl (by decide +kernel) ⟨Nat.le_of_ble_eq_true rfl, Nat.le_of_ble_eq_true rfl⟩) (va_recv hK hP (ci := 0) (q0 := (4 + p0.toNatClampNeg)) rfl (wB_row A u hj_p0)) aB_mono aB_D hP hK hD hS rfl hl.1 rfl (Nat.le_of_ble_eq_true rfl) dX2_get_24 ⟨Nat.le_of_ble_eq_true rfl, Nat.le_of_ble_eq_true rfl⟩ (fun r3 v5 H locs hq4 hP hD hS => ?_)
      obtain ⟨rfl, rfl⟩ := hq4
      exact W.iret hx hb hr (fun t9 ht9 hW => ⟨⟨_, u, rfl, Or.inl ⟨⟨c1, c2⟩, ⟨rfl, rfl⟩⟩, by rw [ht9]; exact hP, va_K.moved hW.alike hK, hD⟩, hS.F ht9⟩) hS.2.2 dX2_get_27
    · refine lv_bipush (v := -2) hx hb dX2_get_14 (by decide) ?_
      exact W.iret hx hb hr (fun t9 ht9 hW => ⟨⟨_, u, rfl, Or.inr ⟨fun h => h.2 c2, rfl, rfl⟩, by rw [ht9]; exact hP, va_K.moved hW.alike hK, hD⟩, hS.F ht9⟩) hS.2.2 dX2_get_16
set_option maxHeartbeats 4000000 in
set_option maxRecDepth 100000 in
theorem c_X2_next (l : Launch) (dC : Nat → ClassId) (dI : Nat → Nat → Nat) (A : AdB) (u : StB) (p0 : Int32) (p1 : Int32) (p2 : Int32) : gMi l yX2_next wX2_next ({ frames := 3, cells := 0, slots := 0, locals := 69 }) (dC, dI) bwCl (tyB A) (wB A) (aB A) [.ref (ah_ A), .int p0, .int p1, .int p2] u (fun r v => ((¬ (fX2_isRow p0) = 0 ∧ ¬ (fX2_isPlace p2) = 0) ∧ ((p1 = 0 ∧ pFF (u.1 p0.toNatClampNeg) p2 0 r) ∨ (p1 = 1 ∧ pFF (u.1 p0.toNatClampNeg) p2 (-1) r) ∨ (p1 = 2 ∧ pLU (u.1 p0.toNatClampNeg) p2 0 r) ∨ (p1 = 3 ∧ pLU (u.1 p0.toNatClampNeg) p2 (-1) r) ∨ ((¬ p1 = 0 ∧ ¬ p1 = 1 ∧ ¬ p1 = 2 ∧ ¬ p1 = 3) ∧ r = -2)) ∧ u = v) ∨ (¬ (¬ (fX2_isRow p0) = 0 ∧ ¬ (fX2_isPlace p2) = 0) ∧ r = -2 ∧ u = v)) := by
  unfold gMi
  intro sz
  refine Met.ofW (cc := cX2_next) (maxL := 4) (ret := (some .int)) (by decide) rfl ?_
  intro p e s m args below meth c s₁ B hml hv
  obtain ⟨rfl, hsz, hP, hK, hD⟩ := hv
  subst hsz
  have hS : va_S (aB A s.heap.size) s.heap s.heap [] := va_S.rf
  have hx := B.exec
  have hb := B.bytes
  have hr := B.returns
  have hts := atoms_spec (ws := wX2_next) B.pre
  have hw : ∀ w ∈ tg_, w.before _ s = true := fun w h => hts w (List.mem_cons_of_mem _ h)
  have hown : s.vm.findClass RX2 = some m.cls := findClass_of_methodNamed B.named
  have hlocks := B.notSynchronized
  have hl := lv_entry ([.ref (ah_ A), .int p0, .int p1, .int p2]) (n := 4) (Nat.le_of_ble_eq_true rfl)
  rw [lg_entry_eq]
  generalize (lg_sl ([.ref (ah_ A), .int p0, .int p1, .int p2]) ++ List.replicate (4 - (lg_sl ([.ref (ah_ A), .int p0, .int p1, .int p2])).length) Slot.unset).toArray = ls at hl ⊢
  have hl : lv_has ls 4 [(0, .ref (ah_ A)), (1, .int p0), (2, .int p1), (3, .int p2)] := hl
  refine lv_iload_n hx hb dX2_next_0 rfl (lv_at hl 1 rfl) ?_
  refine vp_callSi (W.runS (As := [.int p0]) (rest := []) ⟨hx, hb, hml, hown, hts⟩ (c_X2_isRow l p0) (va_cwS 1 hts (gi_S hbc tw_52 tw_53 tw_1 tw_54) rfl rfl rfl (by decide +kernel) ⟨Nat.le_of_ble_eq_true rfl, Nat.le_of_ble_eq_true rfl⟩) preEq rfl rfl hl.1 rfl (lv_room (Nat.le_of_ble_eq_true rfl)) dX2_next_1 ⟨Nat.le_of_ble_eq_true rfl, Nat.le_of_ble_eq_true rfl⟩) (fun r hq => ?_)
  subst hq
  refine lv_if_eq (tgt := 14) hx hb dX2_next_4 (by decide) (fun c1 => ?_) (fun c1 => ?_)
  · refine lv_bipush (v := -2) hx hb dX2_next_14 (by decide) ?_
    exact W.iret hx hb hr (fun t9 ht9 hW => ⟨⟨_, u, rfl, Or.inr ⟨fun h => h.1 c1, rfl, rfl⟩, by rw [ht9]; exact hP, va_K.moved hW.alike hK, hD⟩, hS.F ht9⟩) hS.2.2 dX2_next_16
  · have hj_p0 := row_lt c1
    refine lv_iload_n hx hb dX2_next_7 rfl (lv_at hl 3 rfl) ?_
    refine vp_callSi (W.runS (As := [.int p2]) (rest := []) ⟨hx, hb, hml, hown, hts⟩ (c_X2_isPlace l p2) (va_cwS 1 hts (gi_S hbc tw_58 tw_59 tw_1 tw_60) rfl rfl rfl (by decide +kernel) ⟨Nat.le_of_ble_eq_true rfl, Nat.le_of_ble_eq_true rfl⟩) preEq rfl rfl hl.1 rfl (lv_room (Nat.le_of_ble_eq_true rfl)) dX2_next_8 ⟨Nat.le_of_ble_eq_true rfl, Nat.le_of_ble_eq_true rfl⟩) (fun r hq => ?_)
    subst hq
    refine lv_if_ne (tgt := 17) hx hb dX2_next_11 (by decide) (fun c2 => ?_) (fun c2 => ?_)
    · refine lv_iload_n hx hb dX2_next_17 rfl (lv_at hl 2 rfl) ?_
      by_cases c3 : p1 = 0
      · refine lv_tableIn (off := 30) (tgt := 48) hx hb dX2_next_18 (by rw [c3]; decide) (by rw [c3]; decide) (by rw [c3]; decide) (by decide) ?_
        refine lv_aload_n hx hb dX2_next_48 rfl (lv_at hl 0 rfl) ?_
        refine va_get (D := (dC, dI)) (ci := 2) (v := .ref (aq_ A)) (C := RX2) (T := TX2) (N := 2) hx hb hw igX2 hown hK hP 0 rfl rfl 0 (by decide) (hw _ tw_41) (fun _ h9 => h9) rfl dX2_next_49 ?_
        refine lv_iload_n hx hb dX2_next_52 rfl (lv_at hl 1 rfl) ?_
        refine va_aldq hx hb hK hP 1 0 rfl rfl (row_in c1) dX2_next_53 ?_
        rw [rwF_at A hj_p0]
        refine lv_iload_n hx hb dX2_next_54 rfl (lv_at hl 3 rfl) ?_
        refine lv_lconst (v := 0) hx hb dX2_next_55 (by decide) ?_
        refine gVi (As := [.int p2, .long 0]) (rest := []) ⟨hx, hb, hml, hown, hts⟩ (c_X0_firstFrom l dC dI A u hj_p0 p2 0) (cwV 2 hts (gi_V hbc tw_105 tw_106 tw_107 tw_2 tw_108) rfl rfl rfl (by decide +kernel) ⟨Nat.le_of_ble_eq_true rfl, Nat.le_of_ble_eq_true rfl⟩) (va_recv hK hP (ci := 0) (q0 := (4 + p0.toNatClampNeg)) rfl (wB_row A u hj_p0)) aB_mono aB_D hP hK hD hS rfl hl.1 rfl (Nat.le_of_ble_eq_true rfl) dX2_next_56 ⟨Nat.le_of_ble_eq_true rfl, Nat.le_of_ble_eq_true rfl⟩ (fun r4 v6 H locs hq5 hP hD hS => ?_)
        obtain ⟨hq5, rfl⟩ := hq5
        exact W.iret hx hb hr (fun t9 ht9 hW => ⟨⟨_, u, rfl, Or.inl ⟨⟨c1, c2⟩, ⟨Or.inl ⟨c3, hq5⟩, rfl⟩⟩, by rw [ht9]; exact hP, va_K.moved hW.alike hK, hD⟩, hS.F ht9⟩) hS.2.2 dX2_next_59
      by_cases c7 : p1 = 1
      · refine lv_tableIn (off := 42) (tgt := 60) hx hb dX2_next_18 (by rw [c7]; decide) (by rw [c7]; decide) (by rw [c7]; decide) (by decide) ?_
        refine lv_aload_n hx hb dX2_next_60 rfl (lv_at hl 0 rfl) ?_
        refine va_get (D := (dC, dI)) (ci := 2) (v := .ref (aq_ A)) (C := RX2) (T := TX2) (N := 2) hx hb hw igX2 hown hK hP 0 rfl rfl 0 (by decide) (hw _ tw_41) (fun _ h9 => h9) rfl dX2_next_61 ?_
        refine lv_iload_n hx hb dX2_next_64 rfl (lv_at hl 1 rfl) ?_
        refine va_aldq hx hb hK hP 1 0 rfl rfl (row_in c1) dX2_next_65 ?_
        rw [rwF_at A hj_p0]
        refine lv_iload_n hx hb dX2_next_66 rfl (lv_at hl 3 rfl) ?_
        refine lv_ldc2 (v := (-1)) hx hb hown (hw _ tw_116) dX2_next_67 ?_
        refine gVi (As := [.int p2, .long (-1)]) (rest := []) ⟨hx, hb, hml, hown, hts⟩ (c_X0_firstFrom l dC dI A u hj_p0 p2 (-1)) (cwV 2 hts (gi_V hbc tw_105 tw_106 tw_107 tw_2 tw_108) rfl rfl rfl (by decide +kernel) ⟨Nat.le_of_ble_eq_true rfl, Nat.le_of_ble_eq_true rfl⟩) (va_recv hK hP (ci := 0) (q0 := (4 + p0.toNatClampNeg)) rfl (wB_row A u hj_p0)) aB_mono aB_D hP hK hD hS rfl hl.1 rfl (Nat.le_of_ble_eq_true rfl) dX2_next_70 ⟨Nat.le_of_ble_eq_true rfl, Nat.le_of_ble_eq_true rfl⟩ (fun r8 v10 H locs hq9 hP hD hS => ?_)
        obtain ⟨hq9, rfl⟩ := hq9
        exact W.iret hx hb hr (fun t9 ht9 hW => ⟨⟨_, u, rfl, Or.inl ⟨⟨c1, c2⟩, ⟨Or.inr (Or.inl ⟨c7, hq9⟩), rfl⟩⟩, by rw [ht9]; exact hP, va_K.moved hW.alike hK, hD⟩, hS.F ht9⟩) hS.2.2 dX2_next_73
      by_cases c11 : p1 = 2
      · refine lv_tableIn (off := 56) (tgt := 74) hx hb dX2_next_18 (by rw [c11]; decide) (by rw [c11]; decide) (by rw [c11]; decide) (by decide) ?_
        refine lv_aload_n hx hb dX2_next_74 rfl (lv_at hl 0 rfl) ?_
        refine va_get (D := (dC, dI)) (ci := 2) (v := .ref (aq_ A)) (C := RX2) (T := TX2) (N := 2) hx hb hw igX2 hown hK hP 0 rfl rfl 0 (by decide) (hw _ tw_41) (fun _ h9 => h9) rfl dX2_next_75 ?_
        refine lv_iload_n hx hb dX2_next_78 rfl (lv_at hl 1 rfl) ?_
        refine va_aldq hx hb hK hP 1 0 rfl rfl (row_in c1) dX2_next_79 ?_
        rw [rwF_at A hj_p0]
        refine lv_iload_n hx hb dX2_next_80 rfl (lv_at hl 3 rfl) ?_
        refine lv_lconst (v := 0) hx hb dX2_next_81 (by decide) ?_
        refine gVi (As := [.int p2, .long 0]) (rest := []) ⟨hx, hb, hml, hown, hts⟩ (c_X0_lastUpTo l dC dI A u hj_p0 p2 0) (cwV 2 hts (gi_V hbc tw_117 tw_118 tw_119 tw_2 tw_120) rfl rfl rfl (by decide +kernel) ⟨Nat.le_of_ble_eq_true rfl, Nat.le_of_ble_eq_true rfl⟩) (va_recv hK hP (ci := 0) (q0 := (4 + p0.toNatClampNeg)) rfl (wB_row A u hj_p0)) aB_mono aB_D hP hK hD hS rfl hl.1 rfl (Nat.le_of_ble_eq_true rfl) dX2_next_82 ⟨Nat.le_of_ble_eq_true rfl, Nat.le_of_ble_eq_true rfl⟩ (fun r12 v14 H locs hq13 hP hD hS => ?_)
        obtain ⟨hq13, rfl⟩ := hq13
        exact W.iret hx hb hr (fun t9 ht9 hW => ⟨⟨_, u, rfl, Or.inl ⟨⟨c1, c2⟩, ⟨Or.inr (Or.inr (Or.inl ⟨c11, hq13⟩)), rfl⟩⟩, by rw [ht9]; exact hP, va_K.moved hW.alike hK, hD⟩, hS.F ht9⟩) hS.2.2 dX2_next_85
      by_cases c15 : p1 = 3
      · refine lv_tableIn (off := 68) (tgt := 86) hx hb dX2_next_18 (by rw [c15]; decide) (by rw [c15]; decide) (by rw [c15]; decide) (by decide) ?_
        refine lv_aload_n hx hb dX2_next_86 rfl (lv_at hl 0 rfl) ?_
        refine va_get (D := (dC, dI)) (ci := 2) (v := .ref (aq_ A)) (C := RX2) (T := TX2) (N := 2) hx hb hw igX2 hown hK hP 0 rfl rfl 0 (by decide) (hw _ tw_41) (fun _ h9 => h9) rfl dX2_next_87 ?_
        refine lv_iload_n hx hb dX2_next_90 rfl (lv_at hl 1 rfl) ?_
        refine va_aldq hx hb hK hP 1 0 rfl rfl (row_in c1) dX2_next_91 ?_
        rw [rwF_at A hj_p0]
        refine lv_iload_n hx hb dX2_next_92 rfl (lv_at hl 3 rfl) ?_
        refine lv_ldc2 (v := (-1)) hx hb hown (hw _ tw_116) dX2_next_93 ?_
        refine gVi (As := [.int p2, .long (-1)]) (rest := []) ⟨hx, hb, hml, hown, hts⟩ (c_X0_lastUpTo l dC dI A u hj_p0 p2 (-1)) (cwV 2 hts (gi_V hbc tw_117 tw_118 tw_119 tw_2 tw_120) rfl rfl rfl (by decide +kernel) ⟨Nat.le_of_ble_eq_true rfl, Nat.le_of_ble_eq_true rfl⟩) (va_recv hK hP (ci := 0) (q0 := (4 + p0.toNatClampNeg)) rfl (wB_row A u hj_p0)) aB_mono aB_D hP hK hD hS rfl hl.1 rfl (Nat.le_of_ble_eq_true rfl) dX2_next_96 ⟨Nat.le_of_ble_eq_true rfl, Nat.le_of_ble_eq_true rfl⟩ (fun r16 v18 H locs hq17 hP hD hS => ?_)
        obtain ⟨hq17, rfl⟩ := hq17
        exact W.iret hx hb hr (fun t9 ht9 hW => ⟨⟨_, u, rfl, Or.inl ⟨⟨c1, c2⟩, ⟨Or.inr (Or.inr (Or.inr (Or.inl ⟨c15, hq17⟩))), rfl⟩⟩, by rw [ht9]; exact hP, va_K.moved hW.alike hK, hD⟩, hS.F ht9⟩) hS.2.2 dX2_next_99
      refine lv_tableOut (tgt := 100) hx hb dX2_next_18 (sw_out4 c3 c7 c11 c15) (by decide) ?_
      refine lv_bipush (v := -2) hx hb dX2_next_100 (by decide) ?_
      exact W.iret hx hb hr (fun t9 ht9 hW => ⟨⟨_, u, rfl, Or.inl ⟨⟨c1, c2⟩, ⟨Or.inr (Or.inr (Or.inr (Or.inr (⟨⟨c3, c7, c11, c15⟩, rfl⟩)))), rfl⟩⟩, by rw [ht9]; exact hP, va_K.moved hW.alike hK, hD⟩, hS.F ht9⟩) hS.2.2 dX2_next_102
    · refine lv_bipush (v := -2) hx hb dX2_next_14 (by decide) ?_
      exact W.iret hx hb hr (fun t9 ht9 hW => ⟨⟨_, u, rfl, Or.inr ⟨fun h => h.2 c2, rfl, rfl⟩, by rw [ht9]; exact hP, va_K.moved hW.alike hK, hD⟩, hS.F ht9⟩) hS.2.2 dX2_next_16
set_option maxHeartbeats 4000000 in
set_option maxRecDepth 100000 in
theorem c_X2_join (l : Launch) (dC : Nat → ClassId) (dI : Nat → Nat → Nat) (A : AdB) (u : StB) (p0 : Int32) (p1 : Int32) (p2 : Int32) : gMi l yX2_join wX2_join ({ frames := 2, cells := 0, slots := 0, locals := 47 }) (dC, dI) bwCl (tyB A) (wB A) (aB A) [.ref (ah_ A), .int p0, .int p1, .int p2] u (fun r v => ((¬ (fX2_isRow p0) = 0 ∧ ¬ (fX2_isRow p2) = 0 ∧ ¬ p1 < 0 ∧ p1 ≤ 3) ∧ (r = fX0_ones (((upM u.1 p0.toNatClampNeg (fl (cbW (u.1 p0.toNatClampNeg) (u.1 p2.toNatClampNeg) p1) (u.1 p0.toNatClampNeg) 63), u.2) : StB).1 p0.toNatClampNeg) ∧ ((upM u.1 p0.toNatClampNeg (fl (cbW (u.1 p0.toNatClampNeg) (u.1 p2.toNatClampNeg) p1) (u.1 p0.toNatClampNeg) 63), u.2) : StB) = v)) ∨ (¬ (¬ (fX2_isRow p0) = 0 ∧ ¬ (fX2_isRow p2) = 0 ∧ ¬ p1 < 0 ∧ p1 ≤ 3) ∧ r = -2 ∧ u = v)) := by
  unfold gMi
  intro sz
  refine Met.ofW (cc := cX2_join) (maxL := 4) (ret := (some .int)) (by decide) rfl ?_
  intro p e s m args below meth c s₁ B hml hv
  obtain ⟨rfl, hsz, hP, hK, hD⟩ := hv
  subst hsz
  have hS : va_S (aB A s.heap.size) s.heap s.heap [] := va_S.rf
  have hx := B.exec
  have hb := B.bytes
  have hr := B.returns
  have hts := atoms_spec (ws := wX2_join) B.pre
  have hw : ∀ w ∈ tg_, w.before _ s = true := fun w h => hts w (List.mem_cons_of_mem _ h)
  have hown : s.vm.findClass RX2 = some m.cls := findClass_of_methodNamed B.named
  have hlocks := B.notSynchronized
  have hl := lv_entry ([.ref (ah_ A), .int p0, .int p1, .int p2]) (n := 4) (Nat.le_of_ble_eq_true rfl)
  rw [lg_entry_eq]
  generalize (lg_sl ([.ref (ah_ A), .int p0, .int p1, .int p2]) ++ List.replicate (4 - (lg_sl ([.ref (ah_ A), .int p0, .int p1, .int p2])).length) Slot.unset).toArray = ls at hl ⊢
  have hl : lv_has ls 4 [(0, .ref (ah_ A)), (1, .int p0), (2, .int p1), (3, .int p2)] := hl
  refine lv_iload_n hx hb dX2_join_0 rfl (lv_at hl 1 rfl) ?_
  refine vp_callSi (W.runS (As := [.int p0]) (rest := []) ⟨hx, hb, hml, hown, hts⟩ (c_X2_isRow l p0) (va_cwS 1 hts (gi_S hbc tw_52 tw_53 tw_1 tw_54) rfl rfl rfl (by decide +kernel) ⟨Nat.le_of_ble_eq_true rfl, Nat.le_of_ble_eq_true rfl⟩) preEq rfl rfl hl.1 rfl (lv_room (Nat.le_of_ble_eq_true rfl)) dX2_join_1 ⟨Nat.le_of_ble_eq_true rfl, Nat.le_of_ble_eq_true rfl⟩) (fun r hq => ?_)
  subst hq
  refine lv_if_eq (tgt := 23) hx hb dX2_join_4 (by decide) (fun c1 => ?_) (fun c1 => ?_)
  · refine lv_bipush (v := -2) hx hb dX2_join_23 (by decide) ?_
    exact W.iret hx hb hr (fun t9 ht9 hW => ⟨⟨_, u, rfl, Or.inr ⟨fun h => h.1 c1, rfl, rfl⟩, by rw [ht9]; exact hP, va_K.moved hW.alike hK, hD⟩, hS.F ht9⟩) hS.2.2 dX2_join_25
  · have hj_p0 := row_lt c1
    refine lv_iload_n hx hb dX2_join_7 rfl (lv_at hl 3 rfl) ?_
    refine vp_callSi (W.runS (As := [.int p2]) (rest := []) ⟨hx, hb, hml, hown, hts⟩ (c_X2_isRow l p2) (va_cwS 1 hts (gi_S hbc tw_52 tw_53 tw_1 tw_54) rfl rfl rfl (by decide +kernel) ⟨Nat.le_of_ble_eq_true rfl, Nat.le_of_ble_eq_true rfl⟩) preEq rfl rfl hl.1 rfl (lv_room (Nat.le_of_ble_eq_true rfl)) dX2_join_8 ⟨Nat.le_of_ble_eq_true rfl, Nat.le_of_ble_eq_true rfl⟩) (fun r hq => ?_)
    subst hq
    refine lv_if_eq (tgt := 23) hx hb dX2_join_11 (by decide) (fun c2 => ?_) (fun c2 => ?_)
    · refine lv_bipush (v := -2) hx hb dX2_join_23 (by decide) ?_
      exact W.iret hx hb hr (fun t9 ht9 hW => ⟨⟨_, u, rfl, Or.inr ⟨fun h => h.2.1 c2, rfl, rfl⟩, by rw [ht9]; exact hP, va_K.moved hW.alike hK, hD⟩, hS.F ht9⟩) hS.2.2 dX2_join_25
    · have hj_p2 := row_lt c2
      refine lv_iload_n hx hb dX2_join_14 rfl (lv_at hl 2 rfl) ?_
      refine lv_if_lt (tgt := 23) hx hb dX2_join_15 (by decide) (fun c3 => ?_) (fun c3 => ?_)
      · refine lv_bipush (v := -2) hx hb dX2_join_23 (by decide) ?_
        exact W.iret hx hb hr (fun t9 ht9 hW => ⟨⟨_, u, rfl, Or.inr ⟨fun h => h.2.2.1 c3, rfl, rfl⟩, by rw [ht9]; exact hP, va_K.moved hW.alike hK, hD⟩, hS.F ht9⟩) hS.2.2 dX2_join_25
      · refine lv_iload_n hx hb dX2_join_18 rfl (lv_at hl 2 rfl) ?_
        refine lv_iconst (v := 3) hx hb dX2_join_19 (by decide) ?_
        refine lv_icmp_le (tgt := 26) hx hb dX2_join_20 (by decide) (fun c4 => ?_) (fun c4 => ?_)
        · refine lv_aload_n hx hb dX2_join_26 rfl (lv_at hl 0 rfl) ?_
          refine va_get (D := (dC, dI)) (ci := 2) (v := .ref (aq_ A)) (C := RX2) (T := TX2) (N := 2) hx hb hw igX2 hown hK hP 0 rfl rfl 0 (by decide) (hw _ tw_41) (fun _ h9 => h9) rfl dX2_join_27 ?_
          refine lv_iload_n hx hb dX2_join_30 rfl (lv_at hl 1 rfl) ?_
          refine va_aldq hx hb hK hP 1 0 rfl rfl (row_in c1) dX2_join_31 ?_
          rw [rwF_at A hj_p0]
          refine lv_iload_n hx hb dX2_join_32 rfl (lv_at hl 2 rfl) ?_
          refine lv_aload_n hx hb dX2_join_33 rfl (lv_at hl 0 rfl) ?_
          refine va_get (D := (dC, dI)) (ci := 2) (v := .ref (aq_ A)) (C := RX2) (T := TX2) (N := 2) hx hb hw igX2 hown hK hP 0 rfl rfl 0 (by decide) (hw _ tw_41) (fun _ h9 => h9) rfl dX2_join_34 ?_
          refine lv_iload_n hx hb dX2_join_37 rfl (lv_at hl 3 rfl) ?_
          refine va_aldq hx hb hK hP 1 0 rfl rfl (row_in c2) dX2_join_38 ?_
          rw [rwF_at A hj_p2]
          refine gVv (As := [.int p1, .ref (ar_ A p2.toNatClampNeg)]) (rest := []) ⟨hx, hb, hml, hown, hts⟩ (c_X0_combine l dC dI A u hj_p0 hj_p2 p1) (cwV 2 hts (gi_V hbc tw_131 tw_132 tw_133 tw_2 tw_134) rfl rfl rfl (by decide +kernel) ⟨Nat.le_of_ble_eq_true rfl, Nat.le_of_ble_eq_true rfl⟩) (va_recv hK hP (ci := 0) (q0 := (4 + p0.toNatClampNeg)) rfl (wB_row A u hj_p0)) aB_mono aB_D hP hK hD hS rfl hl.1 rfl (Nat.le_of_ble_eq_true rfl) dX2_join_39 ⟨Nat.le_of_ble_eq_true rfl, Nat.le_of_ble_eq_true rfl⟩ (fun v7 H locs hq6 hP hD hS => ?_)
          obtain rfl := hq6
          refine lv_aload_n hx hb dX2_join_42 rfl (lv_at hl 0 rfl) ?_
          refine va_get (D := (dC, dI)) (ci := 2) (v := .ref (aq_ A)) (C := RX2) (T := TX2) (N := 2) hx hb hw igX2 hown hK hP 0 rfl rfl 0 (by decide) (hw _ tw_41) (fun _ h9 => h9) rfl dX2_join_43 ?_
          refine lv_iload_n hx hb dX2_join_46 rfl (lv_at hl 1 rfl) ?_
          refine va_aldq hx hb hK hP 1 0 rfl rfl (row_in c1) dX2_join_47 ?_
          rw [rwF_at A hj_p0]
          refine gVi (As := []) (rest := []) ⟨hx, hb, hml, hown, hts⟩ (c_X0_ones l dC dI A (upM u.1 p0.toNatClampNeg (fl (cbW (u.1 p0.toNatClampNeg) (u.1 p2.toNatClampNeg) p1) (u.1 p0.toNatClampNeg) 63), u.2) hj_p0) (cwV 0 hts (gi_V hbc tw_87 tw_88 tw_89 tw_2 tw_90) rfl rfl rfl (by decide +kernel) ⟨Nat.le_of_ble_eq_true rfl, Nat.le_of_ble_eq_true rfl⟩) (va_recv hK hP (ci := 0) (q0 := (4 + p0.toNatClampNeg)) rfl (wB_row A (upM u.1 p0.toNatClampNeg (fl (cbW (u.1 p0.toNatClampNeg) (u.1 p2.toNatClampNeg) p1) (u.1 p0.toNatClampNeg) 63), u.2) hj_p0)) aB_mono aB_D hP hK hD hS rfl hl.1 rfl (Nat.le_of_ble_eq_true rfl) dX2_join_48 ⟨Nat.le_of_ble_eq_true rfl, Nat.le_of_ble_eq_true rfl⟩ (fun r8 v10 H locs hq9 hP hD hS => ?_)
          obtain ⟨rfl, rfl⟩ := hq9
          exact W.iret hx hb hr (fun t9 ht9 hW => ⟨⟨_, (upM u.1 p0.toNatClampNeg (fl (cbW (u.1 p0.toNatClampNeg) (u.1 p2.toNatClampNeg) p1) (u.1 p0.toNatClampNeg) 63), u.2), rfl, Or.inl ⟨⟨c1, c2, c3, c4⟩, ⟨rfl, rfl⟩⟩, by rw [ht9]; exact hP, va_K.moved hW.alike hK, hD⟩, hS.F ht9⟩) hS.2.2 dX2_join_51
        · refine lv_bipush (v := -2) hx hb dX2_join_23 (by decide) ?_
          exact W.iret hx hb hr (fun t9 ht9 hW => ⟨⟨_, u, rfl, Or.inr ⟨fun h => c4 h.2.2.2, rfl, rfl⟩, by rw [ht9]; exact hP, va_K.moved hW.alike hK, hD⟩, hS.F ht9⟩) hS.2.2 dX2_join_25
set_option maxHeartbeats 4000000 in
set_option maxRecDepth 100000 in
theorem c_X2_cut (l : Launch) (dC : Nat → ClassId) (dI : Nat → Nat → Nat) (A : AdB) (u : StB) (p0 : Int32) (p1 : Int32) (p2 : Int32) (p3 : Int32) : gMi l yX2_cut wX2_cut ({ frames := 3, cells := 0, slots := 0, locals := 68 }) (dC, dI) bwCl (tyB A) (wB A) (aB A) [.ref (ah_ A), .int p0, .int p1, .int p2, .int p3] u (fun r v => ((¬ (fX2_isRow p0) = 0 ∧ ¬ (fX2_isRow p1) = 0 ∧ ¬ (fX2_isPiece p2 p3) = 0) ∧ (r = fX0_ones (((upM u.1 p0.toNatClampNeg (fl (tpW (u.1 p1.toNatClampNeg) p2 p3) (u.1 p0.toNatClampNeg) 63), u.2) : StB).1 p0.toNatClampNeg) ∧ ((upM u.1 p0.toNatClampNeg (fl (tpW (u.1 p1.toNatClampNeg) p2 p3) (u.1 p0.toNatClampNeg) 63), u.2) : StB) = v)) ∨ (¬ (¬ (fX2_isRow p0) = 0 ∧ ¬ (fX2_isRow p1) = 0 ∧ ¬ (fX2_isPiece p2 p3) = 0) ∧ r = -2 ∧ u = v)) := by
  unfold gMi
  intro sz
  refine Met.ofW (cc := cX2_cut) (maxL := 5) (ret := (some .int)) (by decide) rfl ?_
  intro p e s m args below meth c s₁ B hml hv
  obtain ⟨rfl, hsz, hP, hK, hD⟩ := hv
  subst hsz
  have hS : va_S (aB A s.heap.size) s.heap s.heap [] := va_S.rf
  have hx := B.exec
  have hb := B.bytes
  have hr := B.returns
  have hts := atoms_spec (ws := wX2_cut) B.pre
  have hw : ∀ w ∈ tg_, w.before _ s = true := fun w h => hts w (List.mem_cons_of_mem _ h)
  have hown : s.vm.findClass RX2 = some m.cls := findClass_of_methodNamed B.named
  have hlocks := B.notSynchronized
  have hl := lv_entry ([.ref (ah_ A), .int p0, .int p1, .int p2, .int p3]) (n := 5) (Nat.le_of_ble_eq_true rfl)
  rw [lg_entry_eq]
  generalize (lg_sl ([.ref (ah_ A), .int p0, .int p1, .int p2, .int p3]) ++ List.replicate (5 - (lg_sl ([.ref (ah_ A), .int p0, .int p1, .int p2, .int p3])).length) Slot.unset).toArray = ls at hl ⊢
  have hl : lv_has ls 5 [(0, .ref (ah_ A)), (1, .int p0), (2, .int p1), (3, .int p2), (4, .int p3)] := hl
  refine lv_iload_n hx hb dX2_cut_0 rfl (lv_at hl 1 rfl) ?_
  refine vp_callSi (W.runS (As := [.int p0]) (rest := []) ⟨hx, hb, hml, hown, hts⟩ (c_X2_isRow l p0) (va_cwS 1 hts (gi_S hbc tw_52 tw_53 tw_1 tw_54) rfl rfl rfl (by decide +kernel) ⟨Nat.le_of_ble_eq_true rfl, Nat.le_of_ble_eq_true rfl⟩) preEq rfl rfl hl.1 rfl (lv_room (Nat.le_of_ble_eq_true rfl)) dX2_cut_1 ⟨Nat.le_of_ble_eq_true rfl, Nat.le_of_ble_eq_true rfl⟩) (fun r hq => ?_)
  subst hq
  refine lv_if_eq (tgt := 23) hx hb dX2_cut_4 (by decide) (fun c1 => ?_) (fun c1 => ?_)
  · refine lv_bipush (v := -2) hx hb dX2_cut_23 (by decide) ?_
    exact W.iret hx hb hr (fun t9 ht9 hW => ⟨⟨_, u, rfl, Or.inr ⟨fun h => h.1 c1, rfl, rfl⟩, by rw [ht9]; exact hP, va_K.moved hW.alike hK, hD⟩, hS.F ht9⟩) hS.2.2 dX2_cut_25
  · have hj_p0 := row_lt c1
    refine lv_iload_n hx hb dX2_cut_7 rfl (lv_at hl 2 rfl) ?_
    refine vp_callSi (W.runS (As := [.int p1]) (rest := []) ⟨hx, hb, hml, hown, hts⟩ (c_X2_isRow l p1) (va_cwS 1 hts (gi_S hbc tw_52 tw_53 tw_1 tw_54) rfl rfl rfl (by decide +kernel) ⟨Nat.le_of_ble_eq_true rfl, Nat.le_of_ble_eq_true rfl⟩) preEq rfl rfl hl.1 rfl (lv_room (Nat.le_of_ble_eq_true rfl)) dX2_cut_8 ⟨Nat.le_of_ble_eq_true rfl, Nat.le_of_ble_eq_true rfl⟩) (fun r hq => ?_)
    subst hq
    refine lv_if_eq (tgt := 23) hx hb dX2_cut_11 (by decide) (fun c2 => ?_) (fun c2 => ?_)
    · refine lv_bipush (v := -2) hx hb dX2_cut_23 (by decide) ?_
      exact W.iret hx hb hr (fun t9 ht9 hW => ⟨⟨_, u, rfl, Or.inr ⟨fun h => h.2.1 c2, rfl, rfl⟩, by rw [ht9]; exact hP, va_K.moved hW.alike hK, hD⟩, hS.F ht9⟩) hS.2.2 dX2_cut_25
    · have hj_p1 := row_lt c2
      refine lv_iload_n hx hb dX2_cut_14 rfl (lv_at hl 3 rfl) ?_
      refine lv_iload hx hb dX2_cut_15 (lv_at hl 4 rfl) ?_
      refine vp_callSi (W.runS (As := [.int p2, .int p3]) (rest := []) ⟨hx, hb, hml, hown, hts⟩ (c_X2_isPiece l p2 p3) (va_cwS 2 hts (gi_S hbc tw_84 tw_85 tw_1 tw_86) rfl rfl rfl (by decide +kernel) ⟨Nat.le_of_ble_eq_true rfl, Nat.le_of_ble_eq_true rfl⟩) preEq rfl rfl hl.1 rfl (lv_room (Nat.le_of_ble_eq_true rfl)) dX2_cut_17 ⟨Nat.le_of_ble_eq_true rfl, Nat.le_of_ble_eq_true rfl⟩) (fun r hq => ?_)
      subst hq
      refine lv_if_ne (tgt := 26) hx hb dX2_cut_20 (by decide) (fun c3 => ?_) (fun c3 => ?_)
      · refine lv_aload_n hx hb dX2_cut_26 rfl (lv_at hl 0 rfl) ?_
        refine va_get (D := (dC, dI)) (ci := 2) (v := .ref (aq_ A)) (C := RX2) (T := TX2) (N := 2) hx hb hw igX2 hown hK hP 0 rfl rfl 0 (by decide) (hw _ tw_41) (fun _ h9 => h9) rfl dX2_cut_27 ?_
        refine lv_iload_n hx hb dX2_cut_30 rfl (lv_at hl 1 rfl) ?_
        refine va_aldq hx hb hK hP 1 0 rfl rfl (row_in c1) dX2_cut_31 ?_
        rw [rwF_at A hj_p0]
        refine lv_aload_n hx hb dX2_cut_32 rfl (lv_at hl 0 rfl) ?_
        refine va_get (D := (dC, dI)) (ci := 2) (v := .ref (aq_ A)) (C := RX2) (T := TX2) (N := 2) hx hb hw igX2 hown hK hP 0 rfl rfl 0 (by decide) (hw _ tw_41) (fun _ h9 => h9) rfl dX2_cut_33 ?_
        refine lv_iload_n hx hb dX2_cut_36 rfl (lv_at hl 2 rfl) ?_
        refine va_aldq hx hb hK hP 1 0 rfl rfl (row_in c2) dX2_cut_37 ?_
        rw [rwF_at A hj_p1]
        refine lv_iload_n hx hb dX2_cut_38 rfl (lv_at hl 3 rfl) ?_
        refine lv_iload hx hb dX2_cut_39 (lv_at hl 4 rfl) ?_
        refine gVv (As := [.ref (ar_ A p1.toNatClampNeg), .int p2, .int p3]) (rest := []) ⟨hx, hb, hml, hown, hts⟩ (c_X0_takePiece l dC dI A u hj_p0 hj_p1 p2 p3 c3) (cwV 3 hts (gi_V hbc tw_142 tw_143 tw_144 tw_2 tw_145) rfl rfl rfl (by decide +kernel) ⟨Nat.le_of_ble_eq_true rfl, Nat.le_of_ble_eq_true rfl⟩) (va_recv hK hP (ci := 0) (q0 := (4 + p0.toNatClampNeg)) rfl (wB_row A u hj_p0)) aB_mono aB_D hP hK hD hS rfl hl.1 rfl (Nat.le_of_ble_eq_true rfl) dX2_cut_41 ⟨Nat.le_of_ble_eq_true rfl, Nat.le_of_ble_eq_true rfl⟩ (fun v6 H locs hq5 hP hD hS => ?_)
        obtain rfl := hq5
        refine lv_aload_n hx hb dX2_cut_44 rfl (lv_at hl 0 rfl) ?_
        refine va_get (D := (dC, dI)) (ci := 2) (v := .ref (aq_ A)) (C := RX2) (T := TX2) (N := 2) hx hb hw igX2 hown hK hP 0 rfl rfl 0 (by decide) (hw _ tw_41) (fun _ h9 => h9) rfl dX2_cut_45 ?_
        refine lv_iload_n hx hb dX2_cut_48 rfl (lv_at hl 1 rfl) ?_
        refine va_aldq hx hb hK hP 1 0 rfl rfl (row_in c1) dX2_cut_49 ?_
        rw [rwF_at A hj_p0]
        refine gVi (As := []) (rest := []) ⟨hx, hb, hml, hown, hts⟩ (c_X0_ones l dC dI A (upM u.1 p0.toNatClampNeg (fl (tpW (u.1 p1.toNatClampNeg) p2 p3) (u.1 p0.toNatClampNeg) 63), u.2) hj_p0) (cwV 0 hts (gi_V hbc tw_87 tw_88 tw_89 tw_2 tw_90) rfl rfl rfl (by decide +kernel) ⟨Nat.le_of_ble_eq_true rfl, Nat.le_of_ble_eq_true rfl⟩) (va_recv hK hP (ci := 0) (q0 := (4 + p0.toNatClampNeg)) rfl (wB_row A (upM u.1 p0.toNatClampNeg (fl (tpW (u.1 p1.toNatClampNeg) p2 p3) (u.1 p0.toNatClampNeg) 63), u.2) hj_p0)) aB_mono aB_D hP hK hD hS rfl hl.1 rfl (Nat.le_of_ble_eq_true rfl) dX2_cut_50 ⟨Nat.le_of_ble_eq_true rfl, Nat.le_of_ble_eq_true rfl⟩ (fun r7 v9 H locs hq8 hP hD hS => ?_)
        obtain ⟨rfl, rfl⟩ := hq8
        exact W.iret hx hb hr (fun t9 ht9 hW => ⟨⟨_, (upM u.1 p0.toNatClampNeg (fl (tpW (u.1 p1.toNatClampNeg) p2 p3) (u.1 p0.toNatClampNeg) 63), u.2), rfl, Or.inl ⟨⟨c1, c2, c3⟩, ⟨rfl, rfl⟩⟩, by rw [ht9]; exact hP, va_K.moved hW.alike hK, hD⟩, hS.F ht9⟩) hS.2.2 dX2_cut_53
      · refine lv_bipush (v := -2) hx hb dX2_cut_23 (by decide) ?_
        exact W.iret hx hb hr (fun t9 ht9 hW => ⟨⟨_, u, rfl, Or.inr ⟨fun h => h.2.2 c3, rfl, rfl⟩, by rw [ht9]; exact hP, va_K.moved hW.alike hK, hD⟩, hS.F ht9⟩) hS.2.2 dX2_cut_25
set_option maxHeartbeats 4000000 in
set_option maxRecDepth 100000 in
theorem c_X2_copy (l : Launch) (dC : Nat → ClassId) (dI : Nat → Nat → Nat) (A : AdB) (u : StB) (p0 : Int32) (p1 : Int32) : gMi l yX2_copy wX2_copy ({ frames := 3, cells := 0, slots := 0, locals := 68 }) (dC, dI) bwCl (tyB A) (wB A) (aB A) [.ref (ah_ A), .int p0, .int p1] u (fun r v => ((¬ (fX2_isRow p0) = 0 ∧ ¬ (fX2_isRow p1) = 0) ∧ (r = fX0_ones (((upM u.1 p0.toNatClampNeg (fl (tpW (u.1 p1.toNatClampNeg) 0 4001) (u.1 p0.toNatClampNeg) 63), u.2) : StB).1 p0.toNatClampNeg) ∧ ((upM u.1 p0.toNatClampNeg (fl (tpW (u.1 p1.toNatClampNeg) 0 4001) (u.1 p0.toNatClampNeg) 63), u.2) : StB) = v)) ∨ (¬ (¬ (fX2_isRow p0) = 0 ∧ ¬ (fX2_isRow p1) = 0) ∧ r = -2 ∧ u = v)) := by
  unfold gMi
  intro sz
  refine Met.ofW (cc := cX2_copy) (maxL := 3) (ret := (some .int)) (by decide) rfl ?_
  intro p e s m args below meth c s₁ B hml hv
  obtain ⟨rfl, hsz, hP, hK, hD⟩ := hv
  subst hsz
  have hS : va_S (aB A s.heap.size) s.heap s.heap [] := va_S.rf
  have hx := B.exec
  have hb := B.bytes
  have hr := B.returns
  have hts := atoms_spec (ws := wX2_copy) B.pre
  have hw : ∀ w ∈ tg_, w.before _ s = true := fun w h => hts w (List.mem_cons_of_mem _ h)
  have hown : s.vm.findClass RX2 = some m.cls := findClass_of_methodNamed B.named
  have hlocks := B.notSynchronized
  have hl := lv_entry ([.ref (ah_ A), .int p0, .int p1]) (n := 3) (Nat.le_of_ble_eq_true rfl)
  rw [lg_entry_eq]
  generalize (lg_sl ([.ref (ah_ A), .int p0, .int p1]) ++ List.replicate (3 - (lg_sl ([.ref (ah_ A), .int p0, .int p1])).length) Slot.unset).toArray = ls at hl ⊢
  have hl : lv_has ls 3 [(0, .ref (ah_ A)), (1, .int p0), (2, .int p1)] := hl
  refine lv_iload_n hx hb dX2_copy_0 rfl (lv_at hl 1 rfl) ?_
  refine vp_callSi (W.runS (As := [.int p0]) (rest := []) ⟨hx, hb, hml, hown, hts⟩ (c_X2_isRow l p0) (va_cwS 1 hts (gi_S hbc tw_52 tw_53 tw_1 tw_54) rfl rfl rfl (by decide +kernel) ⟨Nat.le_of_ble_eq_true rfl, Nat.le_of_ble_eq_true rfl⟩) preEq rfl rfl hl.1 rfl (lv_room (Nat.le_of_ble_eq_true rfl)) dX2_copy_1 ⟨Nat.le_of_ble_eq_true rfl, Nat.le_of_ble_eq_true rfl⟩) (fun r hq => ?_)
  subst hq
  refine lv_if_eq (tgt := 14) hx hb dX2_copy_4 (by decide) (fun c1 => ?_) (fun c1 => ?_)
  · refine lv_bipush (v := -2) hx hb dX2_copy_14 (by decide) ?_
    exact W.iret hx hb hr (fun t9 ht9 hW => ⟨⟨_, u, rfl, Or.inr ⟨fun h => h.1 c1, rfl, rfl⟩, by rw [ht9]; exact hP, va_K.moved hW.alike hK, hD⟩, hS.F ht9⟩) hS.2.2 dX2_copy_16
  · have hj_p0 := row_lt c1
    refine lv_iload_n hx hb dX2_copy_7 rfl (lv_at hl 2 rfl) ?_
    refine vp_callSi (W.runS (As := [.int p1]) (rest := []) ⟨hx, hb, hml, hown, hts⟩ (c_X2_isRow l p1) (va_cwS 1 hts (gi_S hbc tw_52 tw_53 tw_1 tw_54) rfl rfl rfl (by decide +kernel) ⟨Nat.le_of_ble_eq_true rfl, Nat.le_of_ble_eq_true rfl⟩) preEq rfl rfl hl.1 rfl (lv_room (Nat.le_of_ble_eq_true rfl)) dX2_copy_8 ⟨Nat.le_of_ble_eq_true rfl, Nat.le_of_ble_eq_true rfl⟩) (fun r hq => ?_)
    subst hq
    refine lv_if_ne (tgt := 17) hx hb dX2_copy_11 (by decide) (fun c2 => ?_) (fun c2 => ?_)
    · have hj_p1 := row_lt c2
      refine lv_aload_n hx hb dX2_copy_17 rfl (lv_at hl 0 rfl) ?_
      refine va_get (D := (dC, dI)) (ci := 2) (v := .ref (aq_ A)) (C := RX2) (T := TX2) (N := 2) hx hb hw igX2 hown hK hP 0 rfl rfl 0 (by decide) (hw _ tw_41) (fun _ h9 => h9) rfl dX2_copy_18 ?_
      refine lv_iload_n hx hb dX2_copy_21 rfl (lv_at hl 1 rfl) ?_
      refine va_aldq hx hb hK hP 1 0 rfl rfl (row_in c1) dX2_copy_22 ?_
      rw [rwF_at A hj_p0]
      refine lv_aload_n hx hb dX2_copy_23 rfl (lv_at hl 0 rfl) ?_
      refine va_get (D := (dC, dI)) (ci := 2) (v := .ref (aq_ A)) (C := RX2) (T := TX2) (N := 2) hx hb hw igX2 hown hK hP 0 rfl rfl 0 (by decide) (hw _ tw_41) (fun _ h9 => h9) rfl dX2_copy_24 ?_
      refine lv_iload_n hx hb dX2_copy_27 rfl (lv_at hl 2 rfl) ?_
      refine va_aldq hx hb hK hP 1 0 rfl rfl (row_in c2) dX2_copy_28 ?_
      rw [rwF_at A hj_p1]
      refine lv_iconst (v := 0) hx hb dX2_copy_29 (by decide) ?_
      refine lv_sipush (v := 4001) hx hb dX2_copy_30 (by decide) ?_
      refine gVv (As := [.ref (ar_ A p1.toNatClampNeg), .int 0, .int 4001]) (rest := []) ⟨hx, hb, hml, hown, hts⟩ (c_X0_takePiece l dC dI A u hj_p0 hj_p1 0 4001 (by decide)) (cwV 3 hts (gi_V hbc tw_142 tw_143 tw_144 tw_2 tw_145) rfl rfl rfl (by decide +kernel) ⟨Nat.le_of_ble_eq_true rfl, Nat.le_of_ble_eq_true rfl⟩) (va_recv hK hP (ci := 0) (q0 := (4 + p0.toNatClampNeg)) rfl (wB_row A u hj_p0)) aB_mono aB_D hP hK hD hS rfl hl.1 rfl (Nat.le_of_ble_eq_true rfl) dX2_copy_33 ⟨Nat.le_of_ble_eq_true rfl, Nat.le_of_ble_eq_true rfl⟩ (fun v5 H locs hq4 hP hD hS => ?_)
      obtain rfl := hq4
      refine lv_aload_n hx hb dX2_copy_36 rfl (lv_at hl 0 rfl) ?_
      refine va_get (D := (dC, dI)) (ci := 2) (v := .ref (aq_ A)) (C := RX2) (T := TX2) (N := 2) hx hb hw igX2 hown hK hP 0 rfl rfl 0 (by decide) (hw _ tw_41) (fun _ h9 => h9) rfl dX2_copy_37 ?_
      refine lv_iload_n hx hb dX2_copy_40 rfl (lv_at hl 1 rfl) ?_
      refine va_aldq hx hb hK hP 1 0 rfl rfl (row_in c1) dX2_copy_41 ?_
      rw [rwF_at A hj_p0]
      refine gVi (As := []) (rest := []) ⟨hx, hb, hml, hown, hts⟩ (c_X0_ones l dC dI A (upM u.1 p0.toNatClampNeg (fl (tpW (u.1 p1.toNatClampNeg) 0 4001) (u.1 p0.toNatClampNeg) 63), u.2) hj_p0) (cwV 0 hts (gi_V hbc tw_87 tw_88 tw_89 tw_2 tw_90) rfl rfl rfl (by decide +kernel) ⟨Nat.le_of_ble_eq_true rfl, Nat.le_of_ble_eq_true rfl⟩) (va_recv hK hP (ci := 0) (q0 := (4 + p0.toNatClampNeg)) rfl (wB_row A (upM u.1 p0.toNatClampNeg (fl (tpW (u.1 p1.toNatClampNeg) 0 4001) (u.1 p0.toNatClampNeg) 63), u.2) hj_p0)) aB_mono aB_D hP hK hD hS rfl hl.1 rfl (Nat.le_of_ble_eq_true rfl) dX2_copy_42 ⟨Nat.le_of_ble_eq_true rfl, Nat.le_of_ble_eq_true rfl⟩ (fun r6 v8 H locs hq7 hP hD hS => ?_)
      obtain ⟨rfl, rfl⟩ := hq7
      exact W.iret hx hb hr (fun t9 ht9 hW => ⟨⟨_, (upM u.1 p0.toNatClampNeg (fl (tpW (u.1 p1.toNatClampNeg) 0 4001) (u.1 p0.toNatClampNeg) 63), u.2), rfl, Or.inl ⟨⟨c1, c2⟩, ⟨rfl, rfl⟩⟩, by rw [ht9]; exact hP, va_K.moved hW.alike hK, hD⟩, hS.F ht9⟩) hS.2.2 dX2_copy_45
    · refine lv_bipush (v := -2) hx hb dX2_copy_14 (by decide) ?_
      exact W.iret hx hb hr (fun t9 ht9 hW => ⟨⟨_, u, rfl, Or.inr ⟨fun h => h.2 c2, rfl, rfl⟩, by rw [ht9]; exact hP, va_K.moved hW.alike hK, hD⟩, hS.F ht9⟩) hS.2.2 dX2_copy_16
set_option maxHeartbeats 4000000 in
set_option maxRecDepth 100000 in
theorem c_X2_look (l : Launch) (dC : Nat → ClassId) (dI : Nat → Nat → Nat) (A : AdB) (u : StB) (p0 : Int32) (p1 : Int32) : gMi l yX2_look wX2_look ({ frames := 4, cells := 0, slots := 0, locals := 89 }) (dC, dI) bwCl (tyB A) (wB A) (aB A) [.ref (ah_ A), .int p0, .int p1] u (fun r v => ((¬ (fX2_isRow p0) = 0) ∧ ((p1 = 0 ∧ r = fX0_ones (u.1 p0.toNatClampNeg)) ∨ (p1 = 1 ∧ ∃ q, pLU (u.1 p0.toNatClampNeg) 4000 0 q ∧ r = q + 1) ∨ (p1 = 2 ∧ ∃ q, (∃ x, pLU (u.1 p0.toNatClampNeg) 4000 0 x ∧ q = x + 1) ∧ ((q = 0 ∧ r = 1) ∨ (¬ q = 0 ∧ r = 0))) ∨ ((¬ p1 = 0 ∧ ¬ p1 = 1 ∧ ¬ p1 = 2) ∧ r = -2)) ∧ u = v) ∨ (¬ (¬ (fX2_isRow p0) = 0) ∧ r = -2 ∧ u = v)) := by
  unfold gMi
  intro sz
  refine Met.ofW (cc := cX2_look) (maxL := 3) (ret := (some .int)) (by decide) rfl ?_
  intro p e s m args below meth c s₁ B hml hv
  obtain ⟨rfl, hsz, hP, hK, hD⟩ := hv
  subst hsz
  have hS : va_S (aB A s.heap.size) s.heap s.heap [] := va_S.rf
  have hx := B.exec
  have hb := B.bytes
  have hr := B.returns
  have hts := atoms_spec (ws := wX2_look) B.pre
  have hw : ∀ w ∈ tg_, w.before _ s = true := fun w h => hts w (List.mem_cons_of_mem _ h)
  have hown : s.vm.findClass RX2 = some m.cls := findClass_of_methodNamed B.named
  have hlocks := B.notSynchronized
  have hl := lv_entry ([.ref (ah_ A), .int p0, .int p1]) (n := 3) (Nat.le_of_ble_eq_true rfl)
  rw [lg_entry_eq]
  generalize (lg_sl ([.ref (ah_ A), .int p0, .int p1]) ++ List.replicate (3 - (lg_sl ([.ref (ah_ A), .int p0, .int p1])).length) Slot.unset).toArray = ls at hl ⊢
  have hl : lv_has ls 3 [(0, .ref (ah_ A)), (1, .int p0), (2, .int p1)] := hl
  refine lv_iload_n hx hb dX2_look_0 rfl (lv_at hl 1 rfl) ?_
  refine vp_callSi (W.runS (As := [.int p0]) (rest := []) ⟨hx, hb, hml, hown, hts⟩ (c_X2_isRow l p0) (va_cwS 1 hts (gi_S hbc tw_52 tw_53 tw_1 tw_54) rfl rfl rfl (by decide +kernel) ⟨Nat.le_of_ble_eq_true rfl, Nat.le_of_ble_eq_true rfl⟩) preEq rfl rfl hl.1 rfl (lv_room (Nat.le_of_ble_eq_true rfl)) dX2_look_1 ⟨Nat.le_of_ble_eq_true rfl, Nat.le_of_ble_eq_true rfl⟩) (fun r hq => ?_)
  subst hq
  refine lv_if_ne (tgt := 10) hx hb dX2_look_4 (by decide) (fun c1 => ?_) (fun c1 => ?_)
  · have hj_p0 := row_lt c1
    refine lv_iload_n hx hb dX2_look_10 rfl (lv_at hl 2 rfl) ?_
    by_cases c2 : p1 = 0
    · refine lv_tableIn (off := 25) (tgt := 36) hx hb dX2_look_11 (by rw [c2]; decide) (by rw [c2]; decide) (by rw [c2]; decide) (by decide) ?_
      refine lv_aload_n hx hb dX2_look_36 rfl (lv_at hl 0 rfl) ?_
      refine va_get (D := (dC, dI)) (ci := 2) (v := .ref (aq_ A)) (C := RX2) (T := TX2) (N := 2) hx hb hw igX2 hown hK hP 0 rfl rfl 0 (by decide) (hw _ tw_41) (fun _ h9 => h9) rfl dX2_look_37 ?_
      refine lv_iload_n hx hb dX2_look_40 rfl (lv_at hl 1 rfl) ?_
      refine va_aldq hx hb hK hP 1 0 rfl rfl (row_in c1) dX2_look_41 ?_
      rw [rwF_at A hj_p0]
      refine gVi (As := []) (rest := []) ⟨hx, hb, hml, hown, hts⟩ (c_X0_ones l dC dI A u hj_p0) (cwV 0 hts (gi_V hbc tw_87 tw_88 tw_89 tw_2 tw_90) rfl rfl rfl (by decide +kernel) ⟨Nat.le_of_ble_eq_true rfl, Nat.le_of_ble_eq_true rfl⟩) (va_recv hK hP (ci := 0) (q0 := (4 + p0.toNatClampNeg)) rfl (wB_row A u hj_p0)) aB_mono aB_D hP hK hD hS rfl hl.1 rfl (Nat.le_of_ble_eq_true rfl) dX2_look_42 ⟨Nat.le_of_ble_eq_true rfl, Nat.le_of_ble_eq_true rfl⟩ (fun r3 v5 H locs hq4 hP hD hS => ?_)
      obtain ⟨rfl, rfl⟩ := hq4
      exact W.iret hx hb hr (fun t9 ht9 hW => ⟨⟨_, u, rfl, Or.inl ⟨c1, ⟨Or.inl ⟨c2, rfl⟩, rfl⟩⟩, by rw [ht9]; exact hP, va_K.moved hW.alike hK, hD⟩, hS.F ht9⟩) hS.2.2 dX2_look_45
    by_cases c6 : p1 = 1
    · refine lv_tableIn (off := 35) (tgt := 46) hx hb dX2_look_11 (by rw [c6]; decide) (by rw [c6]; decide) (by rw [c6]; decide) (by decide) ?_
      refine lv_aload_n hx hb dX2_look_46 rfl (lv_at hl 0 rfl) ?_
      refine va_get (D := (dC, dI)) (ci := 2) (v := .ref (aq_ A)) (C := RX2) (T := TX2) (N := 2) hx hb hw igX2 hown hK hP 0 rfl rfl 0 (by decide) (hw _ tw_41) (fun _ h9 => h9) rfl dX2_look_47 ?_
      refine lv_iload_n hx hb dX2_look_50 rfl (lv_at hl 1 rfl) ?_
      refine va_aldq hx hb hK hP 1 0 rfl rfl (row_in c1) dX2_look_51 ?_
      rw [rwF_at A hj_p0]
      refine gVi (As := []) (rest := []) ⟨hx, hb, hml, hown, hts⟩ (c_X0_end l dC dI A u hj_p0) (cwV 0 hts (gi_V hbc tw_158 tw_159 tw_160 tw_2 tw_161) rfl rfl rfl (by decide +kernel) ⟨Nat.le_of_ble_eq_true rfl, Nat.le_of_ble_eq_true rfl⟩) (va_recv hK hP (ci := 0) (q0 := (4 + p0.toNatClampNeg)) rfl (wB_row A u hj_p0)) aB_mono aB_D hP hK hD hS rfl hl.1 rfl (Nat.le_of_ble_eq_true rfl) dX2_look_52 ⟨Nat.le_of_ble_eq_true rfl, Nat.le_of_ble_eq_true rfl⟩ (fun r7 v9 H locs hq8 hP hD hS => ?_)
      obtain ⟨hq8, rfl⟩ := hq8
      exact W.iret hx hb hr (fun t9 ht9 hW => ⟨⟨_, u, rfl, Or.inl ⟨c1, ⟨Or.inr (Or.inl ⟨c6, hq8⟩), rfl⟩⟩, by rw [ht9]; exact hP, va_K.moved hW.alike hK, hD⟩, hS.F ht9⟩) hS.2.2 dX2_look_55
    by_cases c10 : p1 = 2
    · refine lv_tableIn (off := 45) (tgt := 56) hx hb dX2_look_11 (by rw [c10]; decide) (by rw [c10]; decide) (by rw [c10]; decide) (by decide) ?_
      refine lv_aload_n hx hb dX2_look_56 rfl (lv_at hl 0 rfl) ?_
      refine va_get (D := (dC, dI)) (ci := 2) (v := .ref (aq_ A)) (C := RX2) (T := TX2) (N := 2) hx hb hw igX2 hown hK hP 0 rfl rfl 0 (by decide) (hw _ tw_41) (fun _ h9 => h9) rfl dX2_look_57 ?_
      refine lv_iload_n hx hb dX2_look_60 rfl (lv_at hl 1 rfl) ?_
      refine va_aldq hx hb hK hP 1 0 rfl rfl (row_in c1) dX2_look_61 ?_
      rw [rwF_at A hj_p0]
      refine gVi (As := []) (rest := []) ⟨hx, hb, hml, hown, hts⟩ (c_X0_end l dC dI A u hj_p0) (cwV 0 hts (gi_V hbc tw_158 tw_159 tw_160 tw_2 tw_161) rfl rfl rfl (by decide +kernel) ⟨Nat.le_of_ble_eq_true rfl, Nat.le_of_ble_eq_true rfl⟩) (va_recv hK hP (ci := 0) (q0 := (4 + p0.toNatClampNeg)) rfl (wB_row A u hj_p0)) aB_mono aB_D hP hK hD hS rfl hl.1 rfl (Nat.le_of_ble_eq_true rfl) dX2_look_62 ⟨Nat.le_of_ble_eq_true rfl, Nat.le_of_ble_eq_true rfl⟩ (fun r11 v13 H locs hq12 hP hD hS => ?_)
      obtain ⟨hq12, rfl⟩ := hq12
      refine lv_if_ne (tgt := 72) hx hb dX2_look_65 (by decide) (fun c14 => ?_) (fun c14 => ?_)
      · refine lv_iconst (v := 0) hx hb dX2_look_72 (by decide) ?_
        exact W.iret hx hb hr (fun t9 ht9 hW => ⟨⟨_, u, rfl, Or.inl ⟨c1, ⟨Or.inr (Or.inr (Or.inl ⟨c10, _, hq12, Or.inr ⟨c14, rfl⟩⟩)), rfl⟩⟩, by rw [ht9]; exact hP, va_K.moved hW.alike hK, hD⟩, hS.F ht9⟩) hS.2.2 dX2_look_73
      · refine lv_iconst (v := 1) hx hb dX2_look_68 (by decide) ?_
        refine lv_goto (tgt := 73) hx hb dX2_look_69 (by decide) ?_
        exact W.iret hx hb hr (fun t9 ht9 hW => ⟨⟨_, u, rfl, Or.inl ⟨c1, ⟨Or.inr (Or.inr (Or.inl ⟨c10, _, hq12, Or.inl ⟨c14, rfl⟩⟩)), rfl⟩⟩, by rw [ht9]; exact hP, va_K.moved hW.alike hK, hD⟩, hS.F ht9⟩) hS.2.2 dX2_look_73
    refine lv_tableOut (tgt := 74) hx hb dX2_look_11 (sw_out3 c2 c6 c10) (by decide) ?_
    refine lv_bipush (v := -2) hx hb dX2_look_74 (by decide) ?_
    exact W.iret hx hb hr (fun t9 ht9 hW => ⟨⟨_, u, rfl, Or.inl ⟨c1, ⟨Or.inr (Or.inr (Or.inr (⟨⟨c2, c6, c10⟩, rfl⟩))), rfl⟩⟩, by rw [ht9]; exact hP, va_K.moved hW.alike hK, hD⟩, hS.F ht9⟩) hS.2.2 dX2_look_76
  · refine lv_bipush (v := -2) hx hb dX2_look_7 (by decide) ?_
    exact W.iret hx hb hr (fun t9 ht9 hW => ⟨⟨_, u, rfl, Or.inr ⟨fun h => h c1, rfl, rfl⟩, by rw [ht9]; exact hP, va_K.moved hW.alike hK, hD⟩, hS.F ht9⟩) hS.2.2 dX2_look_9
set_option maxHeartbeats 4000000 in
set_option maxRecDepth 100000 in
theorem c_X2_meet (l : Launch) (dC : Nat → ClassId) (dI : Nat → Nat → Nat) (A : AdB) (u : StB) (p0 : Int32) (p1 : Int32) (p2 : Int32) : gMi l yX2_meet wX2_meet ({ frames := 1, cells := 0, slots := 0, locals := 22 }) (dC, dI) bwCl (tyB A) (wB A) (aB A) [.ref (ah_ A), .int p0, .int p1, .int p2] u (fun r v => ((¬ (fX2_isRow p0) = 0 ∧ ¬ (fX2_isRow p2) = 0) ∧ ((p1 = 0 ∧ ∃ q, pSO (u.1 p0.toNatClampNeg) (u.1 p2.toNatClampNeg) q ∧ ((q = 0 ∧ r = 0) ∨ (¬ q = 0 ∧ r = 1))) ∨ (p1 = 1 ∧ ∃ q, pSM (u.1 p0.toNatClampNeg) (u.1 p2.toNatClampNeg) q ∧ ((q = 0 ∧ r = 0) ∨ (¬ q = 0 ∧ r = 1))) ∨ ((¬ p1 = 0 ∧ ¬ p1 = 1) ∧ r = -2)) ∧ u = v) ∨ (¬ (¬ (fX2_isRow p0) = 0 ∧ ¬ (fX2_isRow p2) = 0) ∧ r = -2 ∧ u = v)) := by
  unfold gMi
  intro sz
  refine Met.ofW (cc := cX2_meet) (maxL := 4) (ret := (some .int)) (by decide) rfl ?_
  intro p e s m args below meth c s₁ B hml hv
  obtain ⟨rfl, hsz, hP, hK, hD⟩ := hv
  subst hsz
  have hS : va_S (aB A s.heap.size) s.heap s.heap [] := va_S.rf
  have hx := B.exec
  have hb := B.bytes
  have hr := B.returns
  have hts := atoms_spec (ws := wX2_meet) B.pre
  have hw : ∀ w ∈ tg_, w.before _ s = true := fun w h => hts w (List.mem_cons_of_mem _ h)
  have hown : s.vm.findClass RX2 = some m.cls := findClass_of_methodNamed B.named
  have hlocks := B.notSynchronized
  have hl := lv_entry ([.ref (ah_ A), .int p0, .int p1, .int p2]) (n := 4) (Nat.le_of_ble_eq_true rfl)
  rw [lg_entry_eq]
  generalize (lg_sl ([.ref (ah_ A), .int p0, .int p1, .int p2]) ++ List.replicate (4 - (lg_sl ([.ref (ah_ A), .int p0, .int p1, .int p2])).length) Slot.unset).toArray = ls at hl ⊢
  have hl : lv_has ls 4 [(0, .ref (ah_ A)), (1, .int p0), (2, .int p1), (3, .int p2)] := hl
  refine lv_iload_n hx hb dX2_meet_0 rfl (lv_at hl 1 rfl) ?_
  refine vp_callSi (W.runS (As := [.int p0]) (rest := []) ⟨hx, hb, hml, hown, hts⟩ (c_X2_isRow l p0) (va_cwS 1 hts (gi_S hbc tw_52 tw_53 tw_1 tw_54) rfl rfl rfl (by decide +kernel) ⟨Nat.le_of_ble_eq_true rfl, Nat.le_of_ble_eq_true rfl⟩) preEq rfl rfl hl.1 rfl (lv_room (Nat.le_of_ble_eq_true rfl)) dX2_meet_1 ⟨Nat.le_of_ble_eq_true rfl, Nat.le_of_ble_eq_true rfl⟩) (fun r hq => ?_)
  subst hq
  refine lv_if_eq (tgt := 14) hx hb dX2_meet_4 (by decide) (fun c1 => ?_) (fun c1 => ?_)
  · refine lv_bipush (v := -2) hx hb dX2_meet_14 (by decide) ?_
    exact W.iret hx hb hr (fun t9 ht9 hW => ⟨⟨_, u, rfl, Or.inr ⟨fun h => h.1 c1, rfl, rfl⟩, by rw [ht9]; exact hP, va_K.moved hW.alike hK, hD⟩, hS.F ht9⟩) hS.2.2 dX2_meet_16
  · have hj_p0 := row_lt c1
    refine lv_iload_n hx hb dX2_meet_7 rfl (lv_at hl 3 rfl) ?_
    refine vp_callSi (W.runS (As := [.int p2]) (rest := []) ⟨hx, hb, hml, hown, hts⟩ (c_X2_isRow l p2) (va_cwS 1 hts (gi_S hbc tw_52 tw_53 tw_1 tw_54) rfl rfl rfl (by decide +kernel) ⟨Nat.le_of_ble_eq_true rfl, Nat.le_of_ble_eq_true rfl⟩) preEq rfl rfl hl.1 rfl (lv_room (Nat.le_of_ble_eq_true rfl)) dX2_meet_8 ⟨Nat.le_of_ble_eq_true rfl, Nat.le_of_ble_eq_true rfl⟩) (fun r hq => ?_)
    subst hq
    refine lv_if_ne (tgt := 17) hx hb dX2_meet_11 (by decide) (fun c2 => ?_) (fun c2 => ?_)
    · have hj_p2 := row_lt c2
      refine lv_iload_n hx hb dX2_meet_17 rfl (lv_at hl 2 rfl) ?_
      by_cases c3 : p1 = 0
      · refine lv_lookup (off := 26) (tgt := 44) hx hb dX2_meet_18 (by decide) (by rw [c3]; decide) (by decide) ?_
        refine lv_aload_n hx hb dX2_meet_44 rfl (lv_at hl 0 rfl) ?_
        refine va_get (D := (dC, dI)) (ci := 2) (v := .ref (aq_ A)) (C := RX2) (T := TX2) (N := 2) hx hb hw igX2 hown hK hP 0 rfl rfl 0 (by decide) (hw _ tw_41) (fun _ h9 => h9) rfl dX2_meet_45 ?_
        refine lv_iload_n hx hb dX2_meet_48 rfl (lv_at hl 1 rfl) ?_
        refine va_aldq hx hb hK hP 1 0 rfl rfl (row_in c1) dX2_meet_49 ?_
        rw [rwF_at A hj_p0]
        refine lv_aload_n hx hb dX2_meet_50 rfl (lv_at hl 0 rfl) ?_
        refine va_get (D := (dC, dI)) (ci := 2) (v := .ref (aq_ A)) (C := RX2) (T := TX2) (N := 2) hx hb hw igX2 hown hK hP 0 rfl rfl 0 (by decide) (hw _ tw_41) (fun _ h9 => h9) rfl dX2_meet_51 ?_
        refine lv_iload_n hx hb dX2_meet_54 rfl (lv_at hl 3 rfl) ?_
        refine va_aldq hx hb hK hP 1 0 rfl rfl (row_in c2) dX2_meet_55 ?_
        rw [rwF_at A hj_p2]
        refine gVi (As := [.ref (ar_ A p2.toNatClampNeg)]) (rest := []) ⟨hx, hb, hml, hown, hts⟩ (c_X0_sharesOne l dC dI A u hj_p0 hj_p2) (cwV 1 hts (gi_V hbc tw_167 tw_168 tw_169 tw_2 tw_170) rfl rfl rfl (by decide +kernel) ⟨Nat.le_of_ble_eq_true rfl, Nat.le_of_ble_eq_true rfl⟩) (va_recv hK hP (ci := 0) (q0 := (4 + p0.toNatClampNeg)) rfl (wB_row A u hj_p0)) aB_mono aB_D hP hK hD hS rfl hl.1 rfl (Nat.le_of_ble_eq_true rfl) dX2_meet_56 ⟨Nat.le_of_ble_eq_true rfl, Nat.le_of_ble_eq_true rfl⟩ (fun r4 v6 H locs hq5 hP hD hS => ?_)
        obtain ⟨hq5, rfl⟩ := hq5
        refine lv_if_eq (tgt := 66) hx hb dX2_meet_59 (by decide) (fun c7 => ?_) (fun c7 => ?_)
        · refine lv_iconst (v := 0) hx hb dX2_meet_66 (by decide) ?_
          exact W.iret hx hb hr (fun t9 ht9 hW => ⟨⟨_, u, rfl, Or.inl ⟨⟨c1, c2⟩, ⟨Or.inl ⟨c3, _, hq5, Or.inl ⟨c7, rfl⟩⟩, rfl⟩⟩, by rw [ht9]; exact hP, va_K.moved hW.alike hK, hD⟩, hS.F ht9⟩) hS.2.2 dX2_meet_67
        · refine lv_iconst (v := 1) hx hb dX2_meet_62 (by decide) ?_
          refine lv_goto (tgt := 67) hx hb dX2_meet_63 (by decide) ?_
          exact W.iret hx hb hr (fun t9 ht9 hW => ⟨⟨_, u, rfl, Or.inl ⟨⟨c1, c2⟩, ⟨Or.inl ⟨c3, _, hq5, Or.inr ⟨c7, rfl⟩⟩, rfl⟩⟩, by rw [ht9]; exact hP, va_K.moved hW.alike hK, hD⟩, hS.F ht9⟩) hS.2.2 dX2_meet_67
      by_cases c8 : p1 = 1
      · refine lv_lookup (off := 50) (tgt := 68) hx hb dX2_meet_18 (by decide) (by rw [c8]; decide) (by decide) ?_
        refine lv_aload_n hx hb dX2_meet_68 rfl (lv_at hl 0 rfl) ?_
        refine va_get (D := (dC, dI)) (ci := 2) (v := .ref (aq_ A)) (C := RX2) (T := TX2) (N := 2) hx hb hw igX2 hown hK hP 0 rfl rfl 0 (by decide) (hw _ tw_41) (fun _ h9 => h9) rfl dX2_meet_69 ?_
        refine lv_iload_n hx hb dX2_meet_72 rfl (lv_at hl 1 rfl) ?_
        refine va_aldq hx hb hK hP 1 0 rfl rfl (row_in c1) dX2_meet_73 ?_
        rw [rwF_at A hj_p0]
        refine lv_aload_n hx hb dX2_meet_74 rfl (lv_at hl 0 rfl) ?_
        refine va_get (D := (dC, dI)) (ci := 2) (v := .ref (aq_ A)) (C := RX2) (T := TX2) (N := 2) hx hb hw igX2 hown hK hP 0 rfl rfl 0 (by decide) (hw _ tw_41) (fun _ h9 => h9) rfl dX2_meet_75 ?_
        refine lv_iload_n hx hb dX2_meet_78 rfl (lv_at hl 3 rfl) ?_
        refine va_aldq hx hb hK hP 1 0 rfl rfl (row_in c2) dX2_meet_79 ?_
        rw [rwF_at A hj_p2]
        refine gVi (As := [.ref (ar_ A p2.toNatClampNeg)]) (rest := []) ⟨hx, hb, hml, hown, hts⟩ (c_X0_isSame l dC dI A u hj_p0 hj_p2) (cwV 1 hts (gi_V hbc tw_171 tw_172 tw_173 tw_2 tw_174) rfl rfl rfl (by decide +kernel) ⟨Nat.le_of_ble_eq_true rfl, Nat.le_of_ble_eq_true rfl⟩) (va_recv hK hP (ci := 0) (q0 := (4 + p0.toNatClampNeg)) rfl (wB_row A u hj_p0)) aB_mono aB_D hP hK hD hS rfl hl.1 rfl (Nat.le_of_ble_eq_true rfl) dX2_meet_80 ⟨Nat.le_of_ble_eq_true rfl, Nat.le_of_ble_eq_true rfl⟩ (fun r9 v11 H locs hq10 hP hD hS => ?_)
        obtain ⟨hq10, rfl⟩ := hq10
        refine lv_if_eq (tgt := 90) hx hb dX2_meet_83 (by decide) (fun c12 => ?_) (fun c12 => ?_)
        · refine lv_iconst (v := 0) hx hb dX2_meet_90 (by decide) ?_
          exact W.iret hx hb hr (fun t9 ht9 hW => ⟨⟨_, u, rfl, Or.inl ⟨⟨c1, c2⟩, ⟨Or.inr (Or.inl ⟨c8, _, hq10, Or.inl ⟨c12, rfl⟩⟩), rfl⟩⟩, by rw [ht9]; exact hP, va_K.moved hW.alike hK, hD⟩, hS.F ht9⟩) hS.2.2 dX2_meet_91
        · refine lv_iconst (v := 1) hx hb dX2_meet_86 (by decide) ?_
          refine lv_goto (tgt := 91) hx hb dX2_meet_87 (by decide) ?_
          exact W.iret hx hb hr (fun t9 ht9 hW => ⟨⟨_, u, rfl, Or.inl ⟨⟨c1, c2⟩, ⟨Or.inr (Or.inl ⟨c8, _, hq10, Or.inr ⟨c12, rfl⟩⟩), rfl⟩⟩, by rw [ht9]; exact hP, va_K.moved hW.alike hK, hD⟩, hS.F ht9⟩) hS.2.2 dX2_meet_91
      refine lv_lookup (off := 74) (tgt := 92) hx hb dX2_meet_18 (by decide) (by show Op.lookupswitch.offset [(0, 26), (1, 50)] 74 (p1).toInt = 74; rw [lv_osw (a := 0) c3 rfl, lv_osw (a := 1) c8 rfl]; rfl) (by decide) ?_
      refine lv_bipush (v := -2) hx hb dX2_meet_92 (by decide) ?_
      exact W.iret hx hb hr (fun t9 ht9 hW => ⟨⟨_, u, rfl, Or.inl ⟨⟨c1, c2⟩, ⟨Or.inr (Or.inr (⟨⟨c3, c8⟩, rfl⟩)), rfl⟩⟩, by rw [ht9]; exact hP, va_K.moved hW.alike hK, hD⟩, hS.F ht9⟩) hS.2.2 dX2_meet_94
    · refine lv_bipush (v := -2) hx hb dX2_meet_14 (by decide) ?_
      exact W.iret hx hb hr (fun t9 ht9 hW => ⟨⟨_, u, rfl, Or.inr ⟨fun h => h.2 c2, rfl, rfl⟩, by rw [ht9]; exact hP, va_K.moved hW.alike hK, hD⟩, hS.F ht9⟩) hS.2.2 dX2_meet_16
set_option maxHeartbeats 4000000 in
set_option maxRecDepth 100000 in
theorem c_X2_word (l : Launch) (dC : Nat → ClassId) (dI : Nat → Nat → Nat) (A : AdB) (u : StB) (p0 : Int32) (p1 : Int32) : gMl l yX2_word wX2_word ({ frames := 1, cells := 0, slots := 0, locals := 21 }) (dC, dI) bwCl (tyB A) (wB A) (aB A) [.ref (ah_ A), .int p0, .int p1] u (fun r v => ((¬ (fX2_isRow p0) = 0 ∧ ¬ p1 < 0 ∧ p1 < 63) ∧ (r = fX0_wordAt (u.1 p0.toNatClampNeg) p1 ∧ u = v)) ∨ (¬ (¬ (fX2_isRow p0) = 0 ∧ ¬ p1 < 0 ∧ p1 < 63) ∧ r = 4611686018427387904 ∧ u = v)) := by
  unfold gMl
  intro sz
  refine Met.ofW (cc := cX2_word) (maxL := 3) (ret := (some .long)) (by decide) rfl ?_
  intro p e s m args below meth c s₁ B hml hv
  obtain ⟨rfl, hsz, hP, hK, hD⟩ := hv
  subst hsz
  have hS : va_S (aB A s.heap.size) s.heap s.heap [] := va_S.rf
  have hx := B.exec
  have hb := B.bytes
  have hr := B.returns
  have hts := atoms_spec (ws := wX2_word) B.pre
  have hw : ∀ w ∈ tg_, w.before _ s = true := fun w h => hts w (List.mem_cons_of_mem _ h)
  have hown : s.vm.findClass RX2 = some m.cls := findClass_of_methodNamed B.named
  have hlocks := B.notSynchronized
  have hl := lv_entry ([.ref (ah_ A), .int p0, .int p1]) (n := 3) (Nat.le_of_ble_eq_true rfl)
  rw [lg_entry_eq]
  generalize (lg_sl ([.ref (ah_ A), .int p0, .int p1]) ++ List.replicate (3 - (lg_sl ([.ref (ah_ A), .int p0, .int p1])).length) Slot.unset).toArray = ls at hl ⊢
  have hl : lv_has ls 3 [(0, .ref (ah_ A)), (1, .int p0), (2, .int p1)] := hl
  refine lv_iload_n hx hb dX2_word_0 rfl (lv_at hl 1 rfl) ?_
  refine vp_callSi (W.runS (As := [.int p0]) (rest := []) ⟨hx, hb, hml, hown, hts⟩ (c_X2_isRow l p0) (va_cwS 1 hts (gi_S hbc tw_52 tw_53 tw_1 tw_54) rfl rfl rfl (by decide +kernel) ⟨Nat.le_of_ble_eq_true rfl, Nat.le_of_ble_eq_true rfl⟩) preEq rfl rfl hl.1 rfl (lv_room (Nat.le_of_ble_eq_true rfl)) dX2_word_1 ⟨Nat.le_of_ble_eq_true rfl, Nat.le_of_ble_eq_true rfl⟩) (fun r hq => ?_)
  subst hq
  refine lv_if_eq (tgt := 17) hx hb dX2_word_4 (by decide) (fun c1 => ?_) (fun c1 => ?_)
  · refine lv_ldc2 (v := 4611686018427387904) hx hb hown (hw _ tw_179) dX2_word_17 ?_
    exact W.lret hx hb hr (fun t9 ht9 hW => ⟨⟨_, u, rfl, Or.inr ⟨fun h => h.1 c1, rfl, rfl⟩, by rw [ht9]; exact hP, va_K.moved hW.alike hK, hD⟩, hS.F ht9⟩) hS.2.2 dX2_word_20
  · have hj_p0 := row_lt c1
    refine lv_iload_n hx hb dX2_word_7 rfl (lv_at hl 2 rfl) ?_
    refine lv_if_lt (tgt := 17) hx hb dX2_word_8 (by decide) (fun c2 => ?_) (fun c2 => ?_)
    · refine lv_ldc2 (v := 4611686018427387904) hx hb hown (hw _ tw_179) dX2_word_17 ?_
      exact W.lret hx hb hr (fun t9 ht9 hW => ⟨⟨_, u, rfl, Or.inr ⟨fun h => h.2.1 c2, rfl, rfl⟩, by rw [ht9]; exact hP, va_K.moved hW.alike hK, hD⟩, hS.F ht9⟩) hS.2.2 dX2_word_20
    · refine lv_iload_n hx hb dX2_word_11 rfl (lv_at hl 2 rfl) ?_
      refine lv_bipush (v := 63) hx hb dX2_word_12 (by decide) ?_
      refine lv_icmp_lt (tgt := 21) hx hb dX2_word_14 (by decide) (fun c3 => ?_) (fun c3 => ?_)
      · refine lv_aload_n hx hb dX2_word_21 rfl (lv_at hl 0 rfl) ?_
        refine va_get (D := (dC, dI)) (ci := 2) (v := .ref (aq_ A)) (C := RX2) (T := TX2) (N := 2) hx hb hw igX2 hown hK hP 0 rfl rfl 0 (by decide) (hw _ tw_41) (fun _ h9 => h9) rfl dX2_word_22 ?_
        refine lv_iload_n hx hb dX2_word_25 rfl (lv_at hl 1 rfl) ?_
        refine va_aldq hx hb hK hP 1 0 rfl rfl (row_in c1) dX2_word_26 ?_
        rw [rwF_at A hj_p0]
        refine lv_iload_n hx hb dX2_word_27 rfl (lv_at hl 2 rfl) ?_
        refine gVl (As := [.int p1]) (rest := []) ⟨hx, hb, hml, hown, hts⟩ (c_X0_wordAt l dC dI A u hj_p0 p1) (cwV 1 hts (gi_V hbc tw_180 tw_66 tw_67 tw_2 tw_68) rfl rfl rfl (by decide +kernel) ⟨Nat.le_of_ble_eq_true rfl, Nat.le_of_ble_eq_true rfl⟩) (va_recv hK hP (ci := 0) (q0 := (4 + p0.toNatClampNeg)) rfl (wB_row A u hj_p0)) aB_mono aB_D hP hK hD hS rfl hl.1 rfl (Nat.le_of_ble_eq_true rfl) dX2_word_28 ⟨Nat.le_of_ble_eq_true rfl, Nat.le_of_ble_eq_true rfl⟩ (fun r4 v6 H locs hq5 hP hD hS => ?_)
        obtain ⟨rfl, rfl⟩ := hq5
        exact W.lret hx hb hr (fun t9 ht9 hW => ⟨⟨_, u, rfl, Or.inl ⟨⟨c1, c2, c3⟩, ⟨rfl, rfl⟩⟩, by rw [ht9]; exact hP, va_K.moved hW.alike hK, hD⟩, hS.F ht9⟩) hS.2.2 dX2_word_31
      · refine lv_ldc2 (v := 4611686018427387904) hx hb hown (hw _ tw_179) dX2_word_17 ?_
        exact W.lret hx hb hr (fun t9 ht9 hW => ⟨⟨_, u, rfl, Or.inr ⟨fun h => c3 h.2.2, rfl, rfl⟩, by rw [ht9]; exact hP, va_K.moved hW.alike hK, hD⟩, hS.F ht9⟩) hS.2.2 dX2_word_20
set_option maxHeartbeats 4000000 in
set_option maxRecDepth 100000 in
theorem c_X2_load (l : Launch) (dC : Nat → ClassId) (dI : Nat → Nat → Nat) (A : AdB) (u : StB) (p0 : Int32) (p1 : Int64) (p2 : Int64) (p3 : Int64) : gMi l yX2_load wX2_load ({ frames := 2, cells := 0, slots := 0, locals := 43 }) (dC, dI) bwCl (tyB A) (wB A) (aB A) [.ref (ah_ A), .int p0, .long p1, .long p2, .long p3] u (fun r v => ((¬ (fX2_isRow p0) = 0) ∧ (r = fX0_ones (((upM u.1 p0.toNatClampNeg (twW (u.1 p0.toNatClampNeg) p1 p2 p3), u.2) : StB).1 p0.toNatClampNeg) ∧ ((upM u.1 p0.toNatClampNeg (twW (u.1 p0.toNatClampNeg) p1 p2 p3), u.2) : StB) = v)) ∨ (¬ (¬ (fX2_isRow p0) = 0) ∧ r = -2 ∧ u = v)) := by
  unfold gMi
  intro sz
  refine Met.ofW (cc := cX2_load) (maxL := 8) (ret := (some .int)) (by decide) rfl ?_
  intro p e s m args below meth c s₁ B hml hv
  obtain ⟨rfl, hsz, hP, hK, hD⟩ := hv
  subst hsz
  have hS : va_S (aB A s.heap.size) s.heap s.heap [] := va_S.rf
  have hx := B.exec
  have hb := B.bytes
  have hr := B.returns
  have hts := atoms_spec (ws := wX2_load) B.pre
  have hw : ∀ w ∈ tg_, w.before _ s = true := fun w h => hts w (List.mem_cons_of_mem _ h)
  have hown : s.vm.findClass RX2 = some m.cls := findClass_of_methodNamed B.named
  have hlocks := B.notSynchronized
  have hl := lv_entry ([.ref (ah_ A), .int p0, .long p1, .long p2, .long p3]) (n := 8) (Nat.le_of_ble_eq_true rfl)
  rw [lg_entry_eq]
  generalize (lg_sl ([.ref (ah_ A), .int p0, .long p1, .long p2, .long p3]) ++ List.replicate (8 - (lg_sl ([.ref (ah_ A), .int p0, .long p1, .long p2, .long p3])).length) Slot.unset).toArray = ls at hl ⊢
  have hl : lv_has ls 8 [(0, .ref (ah_ A)), (1, .int p0), (2, .long p1), (4, .long p2), (6, .long p3)] := hl
  refine lv_iload_n hx hb dX2_load_0 rfl (lv_at hl 1 rfl) ?_
  refine vp_callSi (W.runS (As := [.int p0]) (rest := []) ⟨hx, hb, hml, hown, hts⟩ (c_X2_isRow l p0) (va_cwS 1 hts (gi_S hbc tw_52 tw_53 tw_1 tw_54) rfl rfl rfl (by decide +kernel) ⟨Nat.le_of_ble_eq_true rfl, Nat.le_of_ble_eq_true rfl⟩) preEq rfl rfl hl.1 rfl (lv_room (Nat.le_of_ble_eq_true rfl)) dX2_load_1 ⟨Nat.le_of_ble_eq_true rfl, Nat.le_of_ble_eq_true rfl⟩) (fun r hq => ?_)
  subst hq
  refine lv_if_ne (tgt := 10) hx hb dX2_load_4 (by decide) (fun c1 => ?_) (fun c1 => ?_)
  · have hj_p0 := row_lt c1
    refine lv_aload_n hx hb dX2_load_10 rfl (lv_at hl 0 rfl) ?_
    refine va_get (D := (dC, dI)) (ci := 2) (v := .ref (aq_ A)) (C := RX2) (T := TX2) (N := 2) hx hb hw igX2 hown hK hP 0 rfl rfl 0 (by decide) (hw _ tw_41) (fun _ h9 => h9) rfl dX2_load_11 ?_
    refine lv_iload_n hx hb dX2_load_14 rfl (lv_at hl 1 rfl) ?_
    refine va_aldq hx hb hK hP 1 0 rfl rfl (row_in c1) dX2_load_15 ?_
    rw [rwF_at A hj_p0]
    refine lv_lload_n hx hb dX2_load_16 rfl (lv_at hl 2 rfl) ?_
    refine lv_lload hx hb dX2_load_17 (lv_at hl 3 rfl) ?_
    refine lv_lload hx hb dX2_load_19 (lv_at hl 4 rfl) ?_
    refine gVv (As := [.long p1, .long p2, .long p3]) (rest := []) ⟨hx, hb, hml, hown, hts⟩ (c_X0_takeWords l dC dI A u hj_p0 p1 p2 p3) (cwV 3 hts (gi_V hbc tw_185 tw_186 tw_187 tw_2 tw_188) rfl rfl rfl (by decide +kernel) ⟨Nat.le_of_ble_eq_true rfl, Nat.le_of_ble_eq_true rfl⟩) (va_recv hK hP (ci := 0) (q0 := (4 + p0.toNatClampNeg)) rfl (wB_row A u hj_p0)) aB_mono aB_D hP hK hD hS rfl hl.1 rfl (Nat.le_of_ble_eq_true rfl) dX2_load_21 ⟨Nat.le_of_ble_eq_true rfl, Nat.le_of_ble_eq_true rfl⟩ (fun v4 H locs hq3 hP hD hS => ?_)
    obtain rfl := hq3
    refine lv_aload_n hx hb dX2_load_24 rfl (lv_at hl 0 rfl) ?_
    refine va_get (D := (dC, dI)) (ci := 2) (v := .ref (aq_ A)) (C := RX2) (T := TX2) (N := 2) hx hb hw igX2 hown hK hP 0 rfl rfl 0 (by decide) (hw _ tw_41) (fun _ h9 => h9) rfl dX2_load_25 ?_
    refine lv_iload_n hx hb dX2_load_28 rfl (lv_at hl 1 rfl) ?_
    refine va_aldq hx hb hK hP 1 0 rfl rfl (row_in c1) dX2_load_29 ?_
    rw [rwF_at A hj_p0]
    refine gVi (As := []) (rest := []) ⟨hx, hb, hml, hown, hts⟩ (c_X0_ones l dC dI A (upM u.1 p0.toNatClampNeg (twW (u.1 p0.toNatClampNeg) p1 p2 p3), u.2) hj_p0) (cwV 0 hts (gi_V hbc tw_87 tw_88 tw_89 tw_2 tw_90) rfl rfl rfl (by decide +kernel) ⟨Nat.le_of_ble_eq_true rfl, Nat.le_of_ble_eq_true rfl⟩) (va_recv hK hP (ci := 0) (q0 := (4 + p0.toNatClampNeg)) rfl (wB_row A (upM u.1 p0.toNatClampNeg (twW (u.1 p0.toNatClampNeg) p1 p2 p3), u.2) hj_p0)) aB_mono aB_D hP hK hD hS rfl hl.1 rfl (Nat.le_of_ble_eq_true rfl) dX2_load_30 ⟨Nat.le_of_ble_eq_true rfl, Nat.le_of_ble_eq_true rfl⟩ (fun r5 v7 H locs hq6 hP hD hS => ?_)
    obtain ⟨rfl, rfl⟩ := hq6
    exact W.iret hx hb hr (fun t9 ht9 hW => ⟨⟨_, (upM u.1 p0.toNatClampNeg (twW (u.1 p0.toNatClampNeg) p1 p2 p3), u.2), rfl, Or.inl ⟨c1, ⟨rfl, rfl⟩⟩, by rw [ht9]; exact hP, va_K.moved hW.alike hK, hD⟩, hS.F ht9⟩) hS.2.2 dX2_load_33
  · refine lv_bipush (v := -2) hx hb dX2_load_7 (by decide) ?_
    exact W.iret hx hb hr (fun t9 ht9 hW => ⟨⟨_, u, rfl, Or.inr ⟨fun h => h c1, rfl, rfl⟩, by rw [ht9]; exact hP, va_K.moved hW.alike hK, hD⟩, hS.F ht9⟩) hS.2.2 dX2_load_9
set_option maxHeartbeats 4000000 in
set_option maxRecDepth 100000 in
theorem c_X2_walk (l : Launch) (dC : Nat → ClassId) (dI : Nat → Nat → Nat) (A : AdB) (u : StB) (p0 : Int32) : gMl l yX2_walk wX2_walk ({ frames := 3, cells := 0, slots := 0, locals := 71 }) (dC, dI) bwCl (tyB A) (wB A) (aB A) [.ref (ah_ A), .int p0] u (fun r v => ((¬ (fX2_isRow p0) = 0) ∧ (r = (rkO (u.1 p0.toNatClampNeg) 63).2 ∧ u = v)) ∨ (¬ (¬ (fX2_isRow p0) = 0) ∧ r = 4611686018427387904 ∧ u = v)) := by
  unfold gMl
  intro sz
  refine Met.ofW (cc := cX2_walk) (maxL := 2) (ret := (some .long)) (by decide) rfl ?_
  intro p e s m args below meth c s₁ B hml hv
  obtain ⟨rfl, hsz, hP, hK, hD⟩ := hv
  subst hsz
  have hS : va_S (aB A s.heap.size) s.heap s.heap [] := va_S.rf
  have hx := B.exec
  have hb := B.bytes
  have hr := B.returns
  have hts := atoms_spec (ws := wX2_walk) B.pre
  have hw : ∀ w ∈ tg_, w.before _ s = true := fun w h => hts w (List.mem_cons_of_mem _ h)
  have hown : s.vm.findClass RX2 = some m.cls := findClass_of_methodNamed B.named
  have hlocks := B.notSynchronized
  have hl := lv_entry ([.ref (ah_ A), .int p0]) (n := 2) (Nat.le_of_ble_eq_true rfl)
  rw [lg_entry_eq]
  generalize (lg_sl ([.ref (ah_ A), .int p0]) ++ List.replicate (2 - (lg_sl ([.ref (ah_ A), .int p0])).length) Slot.unset).toArray = ls at hl ⊢
  have hl : lv_has ls 2 [(0, .ref (ah_ A)), (1, .int p0)] := hl
  refine lv_iload_n hx hb dX2_walk_0 rfl (lv_at hl 1 rfl) ?_
  refine vp_callSi (W.runS (As := [.int p0]) (rest := []) ⟨hx, hb, hml, hown, hts⟩ (c_X2_isRow l p0) (va_cwS 1 hts (gi_S hbc tw_52 tw_53 tw_1 tw_54) rfl rfl rfl (by decide +kernel) ⟨Nat.le_of_ble_eq_true rfl, Nat.le_of_ble_eq_true rfl⟩) preEq rfl rfl hl.1 rfl (lv_room (Nat.le_of_ble_eq_true rfl)) dX2_walk_1 ⟨Nat.le_of_ble_eq_true rfl, Nat.le_of_ble_eq_true rfl⟩) (fun r hq => ?_)
  subst hq
  refine lv_if_ne (tgt := 11) hx hb dX2_walk_4 (by decide) (fun c1 => ?_) (fun c1 => ?_)
  · have hj_p0 := row_lt c1
    refine lv_aload_n hx hb dX2_walk_11 rfl (lv_at hl 0 rfl) ?_
    refine va_get (D := (dC, dI)) (ci := 2) (v := .ref (aq_ A)) (C := RX2) (T := TX2) (N := 2) hx hb hw igX2 hown hK hP 0 rfl rfl 0 (by decide) (hw _ tw_41) (fun _ h9 => h9) rfl dX2_walk_12 ?_
    refine lv_iload_n hx hb dX2_walk_15 rfl (lv_at hl 1 rfl) ?_
    refine va_aldq hx hb hK hP 1 0 rfl rfl (row_in c1) dX2_walk_16 ?_
    rw [rwF_at A hj_p0]
    refine gVl (As := []) (rest := []) ⟨hx, hb, hml, hown, hts⟩ (c_X0_rankedSum l dC dI A u hj_p0) (cwV 0 hts (gi_V hbc tw_193 tw_194 tw_195 tw_2 tw_196) rfl rfl rfl (by decide +kernel) ⟨Nat.le_of_ble_eq_true rfl, Nat.le_of_ble_eq_true rfl⟩) (va_recv hK hP (ci := 0) (q0 := (4 + p0.toNatClampNeg)) rfl (wB_row A u hj_p0)) aB_mono aB_D hP hK hD hS rfl hl.1 rfl (Nat.le_of_ble_eq_true rfl) dX2_walk_17 ⟨Nat.le_of_ble_eq_true rfl, Nat.le_of_ble_eq_true rfl⟩ (fun r2 v4 H locs hq3 hP hD hS => ?_)
    obtain ⟨rfl, rfl⟩ := hq3
    exact W.lret hx hb hr (fun t9 ht9 hW => ⟨⟨_, u, rfl, Or.inl ⟨c1, ⟨rfl, rfl⟩⟩, by rw [ht9]; exact hP, va_K.moved hW.alike hK, hD⟩, hS.F ht9⟩) hS.2.2 dX2_walk_20
  · refine lv_ldc2 (v := 4611686018427387904) hx hb hown (hw _ tw_179) dX2_walk_7 ?_
    exact W.lret hx hb hr (fun t9 ht9 hW => ⟨⟨_, u, rfl, Or.inr ⟨fun h => h c1, rfl, rfl⟩, by rw [ht9]; exact hP, va_K.moved hW.alike hK, hD⟩, hS.F ht9⟩) hS.2.2 dX2_walk_10
set_option maxHeartbeats 4000000 in
set_option maxRecDepth 100000 in
theorem c_X2_clear (l : Launch) (dC : Nat → ClassId) (dI : Nat → Nat → Nat) (A : AdB) (u : StB) (p0 : Int32) : gMi l yX2_clear wX2_clear ({ frames := 2, cells := 0, slots := 0, locals := 50 }) (dC, dI) bwCl (tyB A) (wB A) (aB A) [.ref (ah_ A), .int p0] u (fun r v => ((¬ (fX2_isRow p0) = 0) ∧ (r = fX0_ones (u.1 p0.toNatClampNeg) ∧ ((upM u.1 p0.toNatClampNeg (fl (chW (u.1 p0.toNatClampNeg) 0 0 4001) (u.1 p0.toNatClampNeg) 63), u.2) : StB) = v)) ∨ (¬ (¬ (fX2_isRow p0) = 0) ∧ r = -2 ∧ u = v)) := by
  unfold gMi
  intro sz
  refine Met.ofW (cc := cX2_clear) (maxL := 3) (ret := (some .int)) (by decide) rfl ?_
  intro p e s m args below meth c s₁ B hml hv
  obtain ⟨rfl, hsz, hP, hK, hD⟩ := hv
  subst hsz
  have hS : va_S (aB A s.heap.size) s.heap s.heap [] := va_S.rf
  have hx := B.exec
  have hb := B.bytes
  have hr := B.returns
  have hts := atoms_spec (ws := wX2_clear) B.pre
  have hw : ∀ w ∈ tg_, w.before _ s = true := fun w h => hts w (List.mem_cons_of_mem _ h)
  have hown : s.vm.findClass RX2 = some m.cls := findClass_of_methodNamed B.named
  have hlocks := B.notSynchronized
  have hl := lv_entry ([.ref (ah_ A), .int p0]) (n := 3) (Nat.le_of_ble_eq_true rfl)
  rw [lg_entry_eq]
  generalize (lg_sl ([.ref (ah_ A), .int p0]) ++ List.replicate (3 - (lg_sl ([.ref (ah_ A), .int p0])).length) Slot.unset).toArray = ls at hl ⊢
  have hl : lv_has ls 3 [(0, .ref (ah_ A)), (1, .int p0)] := hl
  refine lv_iload_n hx hb dX2_clear_0 rfl (lv_at hl 1 rfl) ?_
  refine vp_callSi (W.runS (As := [.int p0]) (rest := []) ⟨hx, hb, hml, hown, hts⟩ (c_X2_isRow l p0) (va_cwS 1 hts (gi_S hbc tw_52 tw_53 tw_1 tw_54) rfl rfl rfl (by decide +kernel) ⟨Nat.le_of_ble_eq_true rfl, Nat.le_of_ble_eq_true rfl⟩) preEq rfl rfl hl.1 rfl (lv_room (Nat.le_of_ble_eq_true rfl)) dX2_clear_1 ⟨Nat.le_of_ble_eq_true rfl, Nat.le_of_ble_eq_true rfl⟩) (fun r hq => ?_)
  subst hq
  refine lv_if_ne (tgt := 10) hx hb dX2_clear_4 (by decide) (fun c1 => ?_) (fun c1 => ?_)
  · have hj_p0 := row_lt c1
    refine lv_aload_n hx hb dX2_clear_10 rfl (lv_at hl 0 rfl) ?_
    refine va_get (D := (dC, dI)) (ci := 2) (v := .ref (aq_ A)) (C := RX2) (T := TX2) (N := 2) hx hb hw igX2 hown hK hP 0 rfl rfl 0 (by decide) (hw _ tw_41) (fun _ h9 => h9) rfl dX2_clear_11 ?_
    refine lv_iload_n hx hb dX2_clear_14 rfl (lv_at hl 1 rfl) ?_
    refine va_aldq hx hb hK hP 1 0 rfl rfl (row_in c1) dX2_clear_15 ?_
    rw [rwF_at A hj_p0]
    refine gVi (As := []) (rest := []) ⟨hx, hb, hml, hown, hts⟩ (c_X0_ones l dC dI A u hj_p0) (cwV 0 hts (gi_V hbc tw_87 tw_88 tw_89 tw_2 tw_90) rfl rfl rfl (by decide +kernel) ⟨Nat.le_of_ble_eq_true rfl, Nat.le_of_ble_eq_true rfl⟩) (va_recv hK hP (ci := 0) (q0 := (4 + p0.toNatClampNeg)) rfl (wB_row A u hj_p0)) aB_mono aB_D hP hK hD hS rfl hl.1 rfl (Nat.le_of_ble_eq_true rfl) dX2_clear_16 ⟨Nat.le_of_ble_eq_true rfl, Nat.le_of_ble_eq_true rfl⟩ (fun r2 v4 H locs hq3 hP hD hS => ?_)
    obtain ⟨rfl, rfl⟩ := hq3
    refine lv_istore_n (lv' := [(2, .int (fX0_ones (u.1 p0.toNatClampNeg))), (0, .ref (ah_ A)), (1, .int p0)]) hx hb dX2_clear_19 rfl hl (by decide) rfl (fun ls hl => ?_)
    refine lv_aload_n hx hb dX2_clear_20 rfl (lv_at hl 1 rfl) ?_
    refine va_get (D := (dC, dI)) (ci := 2) (v := .ref (aq_ A)) (C := RX2) (T := TX2) (N := 2) hx hb hw igX2 hown hK hP 0 rfl rfl 0 (by decide) (hw _ tw_41) (fun _ h9 => h9) rfl dX2_clear_21 ?_
    refine lv_iload_n hx hb dX2_clear_24 rfl (lv_at hl 2 rfl) ?_
    refine va_aldq hx hb hK hP 1 0 rfl rfl (row_in c1) dX2_clear_25 ?_
    rw [rwF_at A hj_p0]
    refine lv_iconst (v := 0) hx hb dX2_clear_26 (by decide) ?_
    refine lv_iconst (v := 0) hx hb dX2_clear_27 (by decide) ?_
    refine lv_sipush (v := 4001) hx hb dX2_clear_28 (by decide) ?_
    refine gVv (As := [.int 0, .int 0, .int 4001]) (rest := []) ⟨hx, hb, hml, hown, hts⟩ (c_X0_change l dC dI A u hj_p0 0 0 4001) (cwV 3 hts (gi_V hbc tw_69 tw_70 tw_71 tw_2 tw_72) rfl rfl rfl (by decide +kernel) ⟨Nat.le_of_ble_eq_true rfl, Nat.le_of_ble_eq_true rfl⟩) (va_recv hK hP (ci := 0) (q0 := (4 + p0.toNatClampNeg)) rfl (wB_row A u hj_p0)) aB_mono aB_D hP hK hD hS rfl hl.1 rfl (Nat.le_of_ble_eq_true rfl) dX2_clear_31 ⟨Nat.le_of_ble_eq_true rfl, Nat.le_of_ble_eq_true rfl⟩ (fun v7 H locs hq6 hP hD hS => ?_)
    obtain rfl := hq6
    refine lv_iload_n hx hb dX2_clear_34 rfl (lv_at hl 0 rfl) ?_
    exact W.iret hx hb hr (fun t9 ht9 hW => ⟨⟨_, (upM u.1 p0.toNatClampNeg (fl (chW (u.1 p0.toNatClampNeg) 0 0 4001) (u.1 p0.toNatClampNeg) 63), u.2), rfl, Or.inl ⟨c1, ⟨rfl, rfl⟩⟩, by rw [ht9]; exact hP, va_K.moved hW.alike hK, hD⟩, hS.F ht9⟩) hS.2.2 dX2_clear_35
  · refine lv_bipush (v := -2) hx hb dX2_clear_7 (by decide) ?_
    exact W.iret hx hb hr (fun t9 ht9 hW => ⟨⟨_, u, rfl, Or.inr ⟨fun h => h c1, rfl, rfl⟩, by rw [ht9]; exact hP, va_K.moved hW.alike hK, hD⟩, hS.F ht9⟩) hS.2.2 dX2_clear_9
set_option maxHeartbeats 4000000 in
set_option maxRecDepth 100000 in
theorem c_X2_text (l : Launch) (dC : Nat → ClassId) (dI : Nat → Nat → Nat) (A : AdB) (u : StB) (p0 : Int32) : gMi l yX2_text wX2_text ({ frames := 4, cells := 0, slots := 0, locals := 89 }) (dC, dI) bwCl (tyB A) (wB A) (aB A) [.ref (ah_ A), .int p0] u (fun r v => ((¬ (fX2_isRow p0) = 0) ∧ (∃ q, (∃ x, pLU (u.1 p0.toNatClampNeg) 4000 0 x ∧ q = x + 1) ∧ ((q ≤ 128 ∧ (v.1 = u.1 ∧ txB v (wrT (u.1 p0.toNatClampNeg))) ∧ r = v.2.2) ∨ (¬ q ≤ 128 ∧ r = -2 ∧ u = v)))) ∨ (¬ (¬ (fX2_isRow p0) = 0) ∧ r = -2 ∧ u = v)) := by
  unfold gMi
  intro sz
  refine Met.ofW (cc := cX2_text) (maxL := 2) (ret := (some .int)) (by decide) rfl ?_
  intro p e s m args below meth c s₁ B hml hv
  obtain ⟨rfl, hsz, hP, hK, hD⟩ := hv
  subst hsz
  have hS : va_S (aB A s.heap.size) s.heap s.heap [] := va_S.rf
  have hx := B.exec
  have hb := B.bytes
  have hr := B.returns
  have hts := atoms_spec (ws := wX2_text) B.pre
  have hw : ∀ w ∈ tg_, w.before _ s = true := fun w h => hts w (List.mem_cons_of_mem _ h)
  have hown : s.vm.findClass RX2 = some m.cls := findClass_of_methodNamed B.named
  have hlocks := B.notSynchronized
  have hl := lv_entry ([.ref (ah_ A), .int p0]) (n := 2) (Nat.le_of_ble_eq_true rfl)
  rw [lg_entry_eq]
  generalize (lg_sl ([.ref (ah_ A), .int p0]) ++ List.replicate (2 - (lg_sl ([.ref (ah_ A), .int p0])).length) Slot.unset).toArray = ls at hl ⊢
  have hl : lv_has ls 2 [(0, .ref (ah_ A)), (1, .int p0)] := hl
  refine lv_iload_n hx hb dX2_text_0 rfl (lv_at hl 1 rfl) ?_
  refine vp_callSi (W.runS (As := [.int p0]) (rest := []) ⟨hx, hb, hml, hown, hts⟩ (c_X2_isRow l p0) (va_cwS 1 hts (gi_S hbc tw_52 tw_53 tw_1 tw_54) rfl rfl rfl (by decide +kernel) ⟨Nat.le_of_ble_eq_true rfl, Nat.le_of_ble_eq_true rfl⟩) preEq rfl rfl hl.1 rfl (lv_room (Nat.le_of_ble_eq_true rfl)) dX2_text_1 ⟨Nat.le_of_ble_eq_true rfl, Nat.le_of_ble_eq_true rfl⟩) (fun r hq => ?_)
  subst hq
  refine lv_if_eq (tgt := 22) hx hb dX2_text_4 (by decide) (fun c1 => ?_) (fun c1 => ?_)
  · refine lv_bipush (v := -2) hx hb dX2_text_22 (by decide) ?_
    exact W.iret hx hb hr (fun t9 ht9 hW => ⟨⟨_, u, rfl, Or.inr ⟨fun h => h c1, rfl, rfl⟩, by rw [ht9]; exact hP, va_K.moved hW.alike hK, hD⟩, hS.F ht9⟩) hS.2.2 dX2_text_24
  · have hj_p0 := row_lt c1
    refine lv_aload_n hx hb dX2_text_7 rfl (lv_at hl 0 rfl) ?_
    refine va_get (D := (dC, dI)) (ci := 2) (v := .ref (aq_ A)) (C := RX2) (T := TX2) (N := 2) hx hb hw igX2 hown hK hP 0 rfl rfl 0 (by decide) (hw _ tw_41) (fun _ h9 => h9) rfl dX2_text_8 ?_
    refine lv_iload_n hx hb dX2_text_11 rfl (lv_at hl 1 rfl) ?_
    refine va_aldq hx hb hK hP 1 0 rfl rfl (row_in c1) dX2_text_12 ?_
    rw [rwF_at A hj_p0]
    refine gVi (As := []) (rest := []) ⟨hx, hb, hml, hown, hts⟩ (c_X0_end l dC dI A u hj_p0) (cwV 0 hts (gi_V hbc tw_158 tw_159 tw_160 tw_2 tw_161) rfl rfl rfl (by decide +kernel) ⟨Nat.le_of_ble_eq_true rfl, Nat.le_of_ble_eq_true rfl⟩) (va_recv hK hP (ci := 0) (q0 := (4 + p0.toNatClampNeg)) rfl (wB_row A u hj_p0)) aB_mono aB_D hP hK hD hS rfl hl.1 rfl (Nat.le_of_ble_eq_true rfl) dX2_text_13 ⟨Nat.le_of_ble_eq_true rfl, Nat.le_of_ble_eq_true rfl⟩ (fun r2 v4 H locs hq3 hP hD hS => ?_)
    obtain ⟨hq3, rfl⟩ := hq3
    refine lv_sipush (v := 128) hx hb dX2_text_16 (by decide) ?_
    refine lv_icmp_le (tgt := 25) hx hb dX2_text_19 (by decide) (fun c5 => ?_) (fun c5 => ?_)
    · refine lv_aload_n hx hb dX2_text_25 rfl (lv_at hl 0 rfl) ?_
      refine va_get (D := (dC, dI)) (ci := 2) (v := .ref (ag_ A)) (C := RX2) (T := TX2) (N := 2) hx hb hw igX2 hown hK hP 0 rfl rfl 1 (by decide) (hw _ tw_42) (fun _ h9 => h9) rfl dX2_text_26 ?_
      refine lv_aload_n hx hb dX2_text_29 rfl (lv_at hl 0 rfl) ?_
      refine va_get (D := (dC, dI)) (ci := 2) (v := .ref (aq_ A)) (C := RX2) (T := TX2) (N := 2) hx hb hw igX2 hown hK hP 0 rfl rfl 0 (by decide) (hw _ tw_41) (fun _ h9 => h9) rfl dX2_text_30 ?_
      refine lv_iload_n hx hb dX2_text_33 rfl (lv_at hl 1 rfl) ?_
      refine va_aldq hx hb hK hP 1 0 rfl rfl (row_in c1) dX2_text_34 ?_
      rw [rwF_at A hj_p0]
      refine gVv (As := [.ref (ar_ A p0.toNatClampNeg)]) (rest := []) ⟨hx, hb, hml, hown, hts⟩ (c_X1_write l dC dI A u hj_p0) (cwV 1 hts (gi_V hbc tw_205 tw_206 tw_207 tw_3 tw_208) rfl rfl rfl (by decide +kernel) ⟨Nat.le_of_ble_eq_true rfl, Nat.le_of_ble_eq_true rfl⟩) (va_recv hK hP (ci := 1) (q0 := 2) rfl rfl) aB_mono aB_D hP hK hD hS rfl hl.1 rfl (Nat.le_of_ble_eq_true rfl) dX2_text_35 ⟨Nat.le_of_ble_eq_true rfl, Nat.le_of_ble_eq_true rfl⟩ (fun v8 H locs hq7 hP hD hS => ?_)
      obtain ⟨h9, ht10⟩ := hq7
      refine lv_aload_n hx hb dX2_text_38 rfl (lv_at hl 0 rfl) ?_
      refine va_get (D := (dC, dI)) (ci := 2) (v := .ref (ag_ A)) (C := RX2) (T := TX2) (N := 2) hx hb hw igX2 hown hK hP 0 rfl rfl 1 (by decide) (hw _ tw_42) (fun _ h9 => h9) rfl dX2_text_39 ?_
      refine gVi (As := []) (rest := []) ⟨hx, hb, hml, hown, hts⟩ (c_X1_length l dC dI A v8) (cwV 0 hts (gi_V hbc tw_222 tw_223 tw_224 tw_3 tw_225) rfl rfl rfl (by decide +kernel) ⟨Nat.le_of_ble_eq_true rfl, Nat.le_of_ble_eq_true rfl⟩) (va_recv hK hP (ci := 1) (q0 := 2) rfl rfl) aB_mono aB_D hP hK hD hS rfl hl.1 rfl (Nat.le_of_ble_eq_true rfl) dX2_text_42 ⟨Nat.le_of_ble_eq_true rfl, Nat.le_of_ble_eq_true rfl⟩ (fun r11 v13 H locs hq12 hP hD hS => ?_)
      obtain ⟨rfl, rfl⟩ := hq12
      exact W.iret hx hb hr (fun t9 ht9 hW => ⟨⟨_, v8, rfl, Or.inl ⟨c1, ⟨_, hq3, Or.inl ⟨c5, ⟨h9, ht10⟩, rfl⟩⟩⟩, by rw [ht9]; exact hP, va_K.moved hW.alike hK, hD⟩, hS.F ht9⟩) hS.2.2 dX2_text_45
    · refine lv_bipush (v := -2) hx hb dX2_text_22 (by decide) ?_
      exact W.iret hx hb hr (fun t9 ht9 hW => ⟨⟨_, u, rfl, Or.inl ⟨c1, ⟨_, hq3, Or.inr ⟨c5, rfl, rfl⟩⟩⟩, by rw [ht9]; exact hP, va_K.moved hW.alike hK, hD⟩, hS.F ht9⟩) hS.2.2 dX2_text_24
set_option maxHeartbeats 4000000 in
set_option maxRecDepth 100000 in
theorem c_X2_octet (l : Launch) (dC : Nat → ClassId) (dI : Nat → Nat → Nat) (A : AdB) (u : StB) {t : List Int32} (ht : txB u t) (p0 : Int32) : gMi l yX2_octet wX2_octet ({ frames := 1, cells := 0, slots := 0, locals := 21 }) (dC, dI) bwCl (tyB A) (wB A) (aB A) [.ref (ah_ A), .int p0] u (fun r v => (r = fX1_codeAt u p0 ∧ u = v)) := by
  unfold gMi
  intro sz
  refine Met.ofW (cc := cX2_octet) (maxL := 2) (ret := (some .int)) (by decide) rfl ?_
  intro p e s m args below meth c s₁ B hml hv
  obtain ⟨rfl, hsz, hP, hK, hD⟩ := hv
  subst hsz
  have hS : va_S (aB A s.heap.size) s.heap s.heap [] := va_S.rf
  have hx := B.exec
  have hb := B.bytes
  have hr := B.returns
  have hts := atoms_spec (ws := wX2_octet) B.pre
  have hw : ∀ w ∈ tg_, w.before _ s = true := fun w h => hts w (List.mem_cons_of_mem _ h)
  have hown : s.vm.findClass RX2 = some m.cls := findClass_of_methodNamed B.named
  have hlocks := B.notSynchronized
  have hl := lv_entry ([.ref (ah_ A), .int p0]) (n := 2) (Nat.le_of_ble_eq_true rfl)
  rw [lg_entry_eq]
  generalize (lg_sl ([.ref (ah_ A), .int p0]) ++ List.replicate (2 - (lg_sl ([.ref (ah_ A), .int p0])).length) Slot.unset).toArray = ls at hl ⊢
  have hl : lv_has ls 2 [(0, .ref (ah_ A)), (1, .int p0)] := hl
  refine lv_aload_n hx hb dX2_octet_0 rfl (lv_at hl 0 rfl) ?_
  refine va_get (D := (dC, dI)) (ci := 2) (v := .ref (ag_ A)) (C := RX2) (T := TX2) (N := 2) hx hb hw igX2 hown hK hP 0 rfl rfl 1 (by decide) (hw _ tw_42) (fun _ h9 => h9) rfl dX2_octet_1 ?_
  refine lv_iload_n hx hb dX2_octet_4 rfl (lv_at hl 1 rfl) ?_
  refine gVi (As := [.int p0]) (rest := []) ⟨hx, hb, hml, hown, hts⟩ (c_X1_codeAt l dC dI A u ht p0) (cwV 1 hts (gi_V hbc tw_230 tw_231 tw_232 tw_3 tw_233) rfl rfl rfl (by decide +kernel) ⟨Nat.le_of_ble_eq_true rfl, Nat.le_of_ble_eq_true rfl⟩) (va_recv hK hP (ci := 1) (q0 := 2) rfl rfl) aB_mono aB_D hP hK hD hS rfl hl.1 rfl (Nat.le_of_ble_eq_true rfl) dX2_octet_5 ⟨Nat.le_of_ble_eq_true rfl, Nat.le_of_ble_eq_true rfl⟩ (fun r1 v3 H locs hq2 hP hD hS => ?_)
  obtain ⟨rfl, rfl⟩ := hq2
  exact W.iret hx hb hr (fun t9 ht9 hW => ⟨⟨_, u, rfl, ⟨rfl, rfl⟩, by rw [ht9]; exact hP, va_K.moved hW.alike hK, hD⟩, hS.F ht9⟩) hS.2.2 dX2_octet_8
end
section
set_option maxHeartbeats 4000000 in
set_option maxRecDepth 100000 in
theorem c_X0_init (l : Launch) (dC : Nat → ClassId) (dI : Nat → Nat → Nat) (h0 sz : Nat) : Met l yX0_init wX0_init ({ frames := 1, cells := 1, slots := 63, locals := 12 }) (va_Pc [.ref h0] (fun U => U.heap.size = sz ∧ va_P (dC, dI) bwCl [(h0, .inr (0, [.null]))] U.heap ∧ va_K (dC, dI) bwCl [] U ∧ va_D (fun _ => True) [(h0, .inr (0, [.null]))])) (va_Qv (fun q : Nat × ClassId => True) (fun q t => va_P (dC, dI) bwCl [(h0, .inr (0, [.ref q.1])), (q.1, .inl (q.2, 63, .inr (.inl (fun _ => 0))))] t.heap ∧ va_K (dC, dI) bwCl [(q.2, .long)] t ∧ va_D (va_A [(h0, .inr (0, [.null]))] sz) [(h0, .inr (0, [.ref q.1])), (q.1, .inl (q.2, 63, .inr (.inl (fun _ => 0))))]) (va_A [(h0, .inr (0, [.null]))] sz)) 1 63 (va_A [(h0, .inr (0, [.null]))] sz) := by
  refine Met.ofW (cc := cX0_init) (maxL := 1) (ret := none) (by decide) rfl ?_
  intro p e s m args below meth c s₁ B hml hv
  obtain ⟨rfl, hsz, hP, hK, hD0⟩ := hv
  have hx := B.exec
  have hb := B.bytes
  have hr := B.returns
  have hts := atoms_spec (ws := wX0_init) B.pre
  have hw : ∀ w ∈ tg_, w.before _ s = true := fun w h => hts w (List.mem_cons_of_mem _ h)
  have hown : s.vm.findClass RX0 = some m.cls := findClass_of_methodNamed B.named
  have hlocks := B.notSynchronized
  have hin : meth.name = "<init>" := (name_of_methodNamed B.named B.method).1
  subst hsz
  have hD := hD0.self (sz := s.heap.size)
  generalize hAe : va_A [(h0, .inr (0, [.null]))] s.heap.size = X at hD ⊢
  have hA : ∀ q : Nat, s.heap.size ≤ q → X q := fun q h => by rw [← hAe]; exact Or.inr h
  have hS : va_S X s.heap s.heap [] := va_S.rf
  have hP : va_P (dC, dI) bwCl [(h0, .inr (0, [.null]))] s.heap := hP
  have hl := lv_entry ([.ref h0]) (n := 1) (Nat.le_of_ble_eq_true rfl)
  rw [lg_entry_eq]
  generalize (lg_sl ([.ref h0]) ++ List.replicate (1 - (lg_sl ([.ref h0])).length) Slot.unset).toArray = ls at hl ⊢
  have hl : lv_has ls 1 [(0, .ref h0)] := hl
  refine lv_aload_n hx hb dX0_init_0 rfl (lv_at hl 0 rfl) ?_
  refine W.objInit hx hb hown (hw _ tw_21) (hw _ tw_13) (hw _ tw_14) rfl (by rw [hml]; exact hl.1) rfl dX0_init_1 (Nat.le_of_ble_eq_true rfl) (Nat.le_of_ble_eq_true rfl) ?_
  show W p l e _ s m _ below meth c s.heap [] 0 0 _ (F0 m 4 ls [])
  refine lv_aload_n hx hb dX0_init_4 rfl (lv_at hl 0 rfl) ?_
  refine lv_bipush (v := 63) hx hb dX0_init_5 (by decide) ?_
  refine va_newa (D := (dC, dI)) (atype := .long) (ty := .long) (N' := 63) (a0 := (63, .inr (.inl (fun _ => 0)))) hx hb (hw _ tw_26) rfl hK hP hD hS hA (fun _ => rfl) (by decide) rfl (by decide) (Nat.le_of_ble_eq_true rfl) (Nat.le_of_ble_eq_true rfl) dX0_init_7 (fun q1 k2 H hK hP hD hS => ?_)
  have hP : va_P (dC, dI) bwCl [(h0, .inr (0, [.null])), (q1, .inl (k2, 63, .inr (.inl (fun _ => 0))))] H := hP
  have hD : va_D X [(h0, .inr (0, [.null])), (q1, .inl (k2, 63, .inr (.inl (fun _ => 0))))] := hD
  have hK : va_K (dC, dI) bwCl [(k2, .long)] s := hK
  refine va_putF (D := (dC, dI)) (ci := 0) (v := .ref q1) (ty := .array .long) (C := RX0) (T := TX0) (N := 1) hx hb hw igX0 tyX0 tyX0_ok nmX0 hown hK hP hD hS 0 rfl rfl 0 (by decide) (hw _ tw_22) (fun _ h9 => h9) rfl hin rfl (by decide +kernel) rfl rfl (Nat.le_of_ble_eq_true rfl) dX0_init_9 (fun H locs hP hD hS => ?_)
  have hP : va_P (dC, dI) bwCl [(h0, .inr (0, [.ref q1])), (q1, .inl (k2, 63, .inr (.inl (fun _ => 0))))] H := hP
  have hD : va_D X [(h0, .inr (0, [.ref q1])), (q1, .inl (k2, 63, .inr (.inl (fun _ => 0))))] := hD
  refine W.widen (k := 1) (n := 63) (Nat.le_of_ble_eq_true rfl) (Nat.le_of_ble_eq_true rfl) ?_
  exact W.vret hx hb hr (fun t ht hW => ⟨⟨(q1, k2), rfl, trivial, by rw [ht]; exact hP.sub [0, 1] rfl, va_K.moved hW.alike (hK.sub [0] rfl), hD.sub [0, 1] (by decide) rfl⟩, hS.F ht⟩) hS.2.2 dX0_init_12
set_option maxHeartbeats 4000000 in
set_option maxRecDepth 100000 in
theorem c_X1_init (l : Launch) (dC : Nat → ClassId) (dI : Nat → Nat → Nat) (h0 sz : Nat) : Met l yX1_init wX1_init ({ frames := 1, cells := 1, slots := 530, locals := 12 }) (va_Pc [.ref h0] (fun U => U.heap.size = sz ∧ va_P (dC, dI) bwCl [(h0, .inr (1, [.null, .int 0]))] U.heap ∧ va_K (dC, dI) bwCl [] U ∧ va_D (fun _ => True) [(h0, .inr (1, [.null, .int 0]))])) (va_Qv (fun q : Nat × ClassId => True) (fun q t => va_P (dC, dI) bwCl [(h0, .inr (1, [.ref q.1, .int 0])), (q.1, .inl (q.2, 530, .inl (fun _ => 0)))] t.heap ∧ va_K (dC, dI) bwCl [(q.2, .char)] t ∧ va_D (va_A [(h0, .inr (1, [.null, .int 0]))] sz) [(h0, .inr (1, [.ref q.1, .int 0])), (q.1, .inl (q.2, 530, .inl (fun _ => 0)))]) (va_A [(h0, .inr (1, [.null, .int 0]))] sz)) 1 530 (va_A [(h0, .inr (1, [.null, .int 0]))] sz) := by
  refine Met.ofW (cc := cX1_init) (maxL := 1) (ret := none) (by decide) rfl ?_
  intro p e s m args below meth c s₁ B hml hv
  obtain ⟨rfl, hsz, hP, hK, hD0⟩ := hv
  have hx := B.exec
  have hb := B.bytes
  have hr := B.returns
  have hts := atoms_spec (ws := wX1_init) B.pre
  have hw : ∀ w ∈ tg_, w.before _ s = true := fun w h => hts w (List.mem_cons_of_mem _ h)
  have hown : s.vm.findClass RX1 = some m.cls := findClass_of_methodNamed B.named
  have hlocks := B.notSynchronized
  have hin : meth.name = "<init>" := (name_of_methodNamed B.named B.method).1
  subst hsz
  have hD := hD0.self (sz := s.heap.size)
  generalize hAe : va_A [(h0, .inr (1, [.null, .int 0]))] s.heap.size = X at hD ⊢
  have hA : ∀ q : Nat, s.heap.size ≤ q → X q := fun q h => by rw [← hAe]; exact Or.inr h
  have hS : va_S X s.heap s.heap [] := va_S.rf
  have hP : va_P (dC, dI) bwCl [(h0, .inr (1, [.null, .int 0]))] s.heap := hP
  have hl := lv_entry ([.ref h0]) (n := 1) (Nat.le_of_ble_eq_true rfl)
  rw [lg_entry_eq]
  generalize (lg_sl ([.ref h0]) ++ List.replicate (1 - (lg_sl ([.ref h0])).length) Slot.unset).toArray = ls at hl ⊢
  have hl : lv_has ls 1 [(0, .ref h0)] := hl
  refine lv_aload_n hx hb dX1_init_0 rfl (lv_at hl 0 rfl) ?_
  refine W.objInit hx hb hown (hw _ tw_32) (hw _ tw_13) (hw _ tw_14) rfl (by rw [hml]; exact hl.1) rfl dX1_init_1 (Nat.le_of_ble_eq_true rfl) (Nat.le_of_ble_eq_true rfl) ?_
  show W p l e _ s m _ below meth c s.heap [] 0 0 _ (F0 m 4 ls [])
  refine lv_aload_n hx hb dX1_init_4 rfl (lv_at hl 0 rfl) ?_
  refine lv_sipush (v := 530) hx hb dX1_init_5 (by decide) ?_
  refine va_newa (D := (dC, dI)) (atype := .char) (ty := .char) (N' := 530) (a0 := (530, .inl (fun _ => 0))) hx hb (hw _ tw_40) rfl hK hP hD hS hA (fun _ => rfl) (by decide) rfl (by decide) (Nat.le_of_ble_eq_true rfl) (Nat.le_of_ble_eq_true rfl) dX1_init_8 (fun q1 k2 H hK hP hD hS => ?_)
  have hP : va_P (dC, dI) bwCl [(h0, .inr (1, [.null, .int 0])), (q1, .inl (k2, 530, .inl (fun _ => 0)))] H := hP
  have hD : va_D X [(h0, .inr (1, [.null, .int 0])), (q1, .inl (k2, 530, .inl (fun _ => 0)))] := hD
  have hK : va_K (dC, dI) bwCl [(k2, .char)] s := hK
  refine va_putF (D := (dC, dI)) (ci := 1) (v := .ref q1) (ty := .array .char) (C := RX1) (T := TX1) (N := 2) hx hb hw igX1 tyX1 tyX1_ok nmX1 hown hK hP hD hS 0 rfl rfl 0 (by decide) (hw _ tw_33) (fun _ h9 => h9) rfl hin rfl (by decide +kernel) rfl rfl (Nat.le_of_ble_eq_true rfl) dX1_init_10 (fun H locs hP hD hS => ?_)
  have hP : va_P (dC, dI) bwCl [(h0, .inr (1, [.ref q1, .int 0])), (q1, .inl (k2, 530, .inl (fun _ => 0)))] H := hP
  have hD : va_D X [(h0, .inr (1, [.ref q1, .int 0])), (q1, .inl (k2, 530, .inl (fun _ => 0)))] := hD
  refine lv_aload_n hx hb dX1_init_13 rfl (lv_at hl 0 rfl) ?_
  refine lv_iconst (v := 0) hx hb dX1_init_14 (by decide) ?_
  refine va_put (D := (dC, dI)) (ci := 1) (v := .int 0) (ty := .int) (C := RX1) (T := TX1) (N := 2) hx hb hw igX1 tyX1 tyX1_ok nmX1 hown hK hP hD hS 0 rfl rfl 1 (by decide) (hw _ tw_34) (fun _ h9 => h9) rfl (by decide +kernel) rfl rfl (Nat.le_of_ble_eq_true rfl) dX1_init_15 (fun H locs hP hD hS => ?_)
  have hP : va_P (dC, dI) bwCl [(h0, .inr (1, [.ref q1, .int 0])), (q1, .inl (k2, 530, .inl (fun _ => 0)))] H := hP
  have hD : va_D X [(h0, .inr (1, [.ref q1, .int 0])), (q1, .inl (k2, 530, .inl (fun _ => 0)))] := hD
  refine W.widen (k := 1) (n := 530) (Nat.le_of_ble_eq_true rfl) (Nat.le_of_ble_eq_true rfl) ?_
  exact W.vret hx hb hr (fun t ht hW => ⟨⟨(q1, k2), rfl, trivial, by rw [ht]; exact hP.sub [0, 1] rfl, va_K.moved hW.alike (hK.sub [0] rfl), hD.sub [0, 1] (by decide) rfl⟩, hS.F ht⟩) hS.2.2 dX1_init_18
def tb4 {α : Type} (a b c d : α) : Nat → α
  | 0 => a
  | 1 => b
  | 2 => c
  | _ => d
def u0B : StB := (fun _ _ => 0, fun _ => 0, 0)
set_option maxHeartbeats 4000000 in
set_option maxRecDepth 100000 in
theorem c_X2_init (l : Launch) (dC : Nat → ClassId) (dI : Nat → Nat → Nat) (h0 sz : Nat) : Met l yX2_init wX2_init ({ frames := 2, cells := 11, slots := 792, locals := 32 }) (va_Pc [.ref h0] (fun U => U.heap.size = sz ∧ va_P (dC, dI) bwCl [(h0, .inr (2, [.null, .null]))] U.heap ∧ va_K (dC, dI) bwCl [] U ∧ va_D (fun _ => True) [(h0, .inr (2, [.null, .null]))] ∧ va_AO RX0 U ∧ va_Nw (.methodLinkNest RX2 15 yX0_init RX2) U ∧ va_Nw (.methodLinkNest RX2 18 yX1_init RX2) U)) (va_Qv (fun q : AdB => ah_ q = h0) (fun A t => va_P (dC, dI) bwCl (wB A u0B) t.heap ∧ va_K (dC, dI) bwCl (tyB A) t ∧ va_D (va_A [(h0, .inr (2, [.null, .null]))] sz) (wB A u0B)) (va_A [(h0, .inr (2, [.null, .null]))] sz)) 11 792 (va_A [(h0, .inr (2, [.null, .null]))] sz) := by
  refine Met.ofW (cc := cX2_init) (maxL := 2) (ret := none) (by decide) rfl ?_
  intro p e s m args below meth c s₁ B hml hv
  obtain ⟨rfl, hsz, hP, hK, hD0, hAO, hN18, hN29⟩ := hv
  have hx := B.exec
  have hb := B.bytes
  have hr := B.returns
  have hts := atoms_spec (ws := wX2_init) B.pre
  have hw : ∀ w ∈ tg_, w.before _ s = true := fun w h => hts w (List.mem_cons_of_mem _ h)
  have hown : s.vm.findClass RX2 = some m.cls := findClass_of_methodNamed B.named
  have hlocks := B.notSynchronized
  have hin : meth.name = "<init>" := (name_of_methodNamed B.named B.method).1
  subst hsz
  have hD := hD0.self (sz := s.heap.size)
  generalize hAe : va_A [(h0, .inr (2, [.null, .null]))] s.heap.size = X at hD ⊢
  have hA : ∀ q : Nat, s.heap.size ≤ q → X q := fun q h => by rw [← hAe]; exact Or.inr h
  have hS : va_S X s.heap s.heap [] := va_S.rf
  have hP : va_P (dC, dI) bwCl [(h0, .inr (2, [.null, .null]))] s.heap := hP
  have hl := lv_entry ([.ref h0]) (n := 2) (Nat.le_of_ble_eq_true rfl)
  rw [lg_entry_eq]
  generalize (lg_sl ([.ref h0]) ++ List.replicate (2 - (lg_sl ([.ref h0])).length) Slot.unset).toArray = ls at hl ⊢
  have hl : lv_has ls 2 [(0, .ref h0)] := hl
  refine lv_aload_n hx hb dX2_init_0 rfl (lv_at hl 0 rfl) ?_
  refine W.objInit hx hb hown (hw _ tw_12) (hw _ tw_13) (hw _ tw_14) rfl (by rw [hml]; exact hl.1) rfl dX2_init_1 (Nat.le_of_ble_eq_true rfl) (Nat.le_of_ble_eq_true rfl) ?_
  show W p l e _ s m _ below meth c s.heap [] 0 0 _ (F0 m 4 ls [])
  refine lv_aload_n hx hb dX2_init_4 rfl (lv_at hl 0 rfl) ?_
  refine lv_iconst (v := 4) hx hb dX2_init_5 (by decide) ?_
  refine va_newq (D := (dC, dI)) (N' := 4) hx hb hown (hw _ tw_15) hAO hK hP hD hS hA (by decide) rfl (by decide) (Nat.le_of_ble_eq_true rfl) (Nat.le_of_ble_eq_true rfl) dX2_init_6 (fun q1 k2 H hK hP hD hS => ?_)
  have hP : va_P (dC, dI) bwCl [(h0, .inr (2, [.null, .null])), (q1, .inl (k2, 4, .inr (.inr (.inr (.inr (fun _ => none))))))] H := hP
  have hD : va_D X [(h0, .inr (2, [.null, .null])), (q1, .inl (k2, 4, .inr (.inr (.inr (.inr (fun _ => none))))))] := hD
  have hK : va_K (dC, dI) bwCl [(k2, .object RX0)] s := hK
  refine va_putF (D := (dC, dI)) (ci := 2) (v := .ref q1) (ty := .array (.object "BitBoard$Row")) (C := RX2) (T := TX2) (N := 2) hx hb hw igX2 tyX2 tyX2_ok nmX2 hown hK hP hD hS 0 rfl rfl 0 (by decide) (hw _ tw_41) (fun _ h9 => h9) rfl hin rfl (by decide +kernel) rfl rfl (Nat.le_of_ble_eq_true rfl) dX2_init_9 (fun H locs hP hD hS => ?_)
  have hP : va_P (dC, dI) bwCl [(h0, .inr (2, [.ref q1, .null])), (q1, .inl (k2, 4, .inr (.inr (.inr (.inr (fun _ => none))))))] H := hP
  have hD : va_D X [(h0, .inr (2, [.ref q1, .null])), (q1, .inl (k2, 4, .inr (.inr (.inr (.inr (fun _ => none))))))] := hD
  refine lv_iconst (v := 0) hx hb dX2_init_12 (by decide) ?_
  refine lv_istore_n (lv' := [(1, .int 0), (0, .ref h0)]) hx hb dX2_init_13 rfl hl (by decide) rfl (fun ls hl => ?_)
  refine lv_iload_n hx hb dX2_init_14 rfl (lv_at hl 0 rfl) ?_
  refine lv_iconst (v := 4) hx hb dX2_init_15 (by decide) ?_
  refine lv_icmp_ge (tgt := 38) hx hb dX2_init_16 (by decide) (fun c3 => ?_) (fun c3 => ?_)
  · exact absurd c3 (by decide)
  · refine lv_aload_n hx hb dX2_init_19 rfl (lv_at hl 1 rfl) ?_
    refine va_get (D := (dC, dI)) (ci := 2) (v := .ref q1) (C := RX2) (T := TX2) (N := 2) hx hb hw igX2 hown hK hP 0 rfl rfl 0 (by decide) (hw _ tw_41) (fun _ h9 => h9) rfl dX2_init_20 ?_
    refine lv_iload_n hx hb dX2_init_23 rfl (lv_at hl 0 rfl) ?_
    refine va_new (D := (dC, dI)) (ci := 0) (fs := [.null]) (C := RX0) (T := TX0) (N := 1) hx hb hw igX0 tyX0 tyX0_ok hown (hw _ tw_15) (hw _ tw_17) (hw _ tw_2) hK hP hD hS hA rfl (fun j hj => by rcases (show j = 0 by omega) with rfl <;> rfl) (Nat.le_of_ble_eq_true rfl) (Nat.le_of_ble_eq_true rfl) dX2_init_24 (fun q4 H hP hD hS => ?_)
    have hP : va_P (dC, dI) bwCl [(h0, .inr (2, [.ref q1, .null])), (q1, .inl (k2, 4, .inr (.inr (.inr (.inr (fun _ => none)))))), (q4, .inr (0, [.null]))] H := hP
    have hD : va_D X [(h0, .inr (2, [.ref q1, .null])), (q1, .inl (k2, 4, .inr (.inr (.inr (.inr (fun _ => none)))))), (q4, .inr (0, [.null]))] := hD
    refine lv_dup hx hb dX2_init_27 rfl ?_
    have hPc := hP.sub (ws' := [(q4, .inr (0, [.null]))]) [2] rfl
    have hDc := hD.sub (ws' := [(q4, .inr (0, [.null]))]) [2] (by decide) rfl
    have hKc := hK.sub (tys' := []) [] rfl
    have hFc := va_free (wc := [(q4, .inr (0, [.null]))]) hD hS hA [2] rfl
    refine va_callv (va_runIN (As := []) (rest := [.ref q4, .int 0, .ref q1]) ⟨hx, hb, hml, hown, hts⟩ (c_X0_init l dC dI q4 H.size) (⟨va_cnB 0 hts (gi_in hbc tw_20) rfl rfl rfl hN18 (hw _ tw_2) (by decide +kernel) ⟨Nat.le_of_ble_eq_true rfl, Nat.le_of_ble_eq_true rfl⟩, rfl, hw _ tw_19⟩) ⟨fun a U g mk q => by obtain ⟨q0, q1, qP, qK, qD⟩ := q; exact ⟨q0, q1, qP, va_K.moved (u := U) (U := U.calling g mk a) (Vm.Alike.refl U.vm) qK, qD⟩, fun U hU hW => ⟨rfl, by rw [hU], by rw [hU]; exact hPc, va_K.moved hW.alike hKc, hDc.weaken (fun _ _ _ _ => trivial)⟩⟩ rfl rfl hl.1 rfl (lv_room (Nat.le_of_ble_eq_true rfl)) dX2_init_28 ⟨Nat.le_of_ble_eq_true rfl, Nat.le_of_ble_eq_true rfl⟩) hS (fun q _ h => hFc q h) hFc (fun u9 t H1 locs ht hvm hw9 hB hz1 hk1 hS => ?_)
    obtain ⟨q5, k6⟩ := u9
    obtain ⟨hP1, hK1, hD1⟩ := hB
    rw [ht] at hP1
    have hK1 := va_K.moved hvm.symm hK1
    obtain ⟨hP, hD⟩ := va_join (wr := [(h0, .inr (2, [.ref q1, .null])), (q1, .inl (k2, 4, .inr (.inr (.inr (.inr (fun _ => none))))))]) (w1 := [(q4, .inr (0, [.ref q5])), (q5, .inl (k6, 63, .inr (.inl (fun _ => 0))))]) hP hD [2] [0, 1] rfl rfl (by decide) (by decide) hk1 hFc hP1 hD1
    have hK := (hK.sub (tys' := [(k2, .object RX0)]) [0] rfl).app hK1
    generalize H1 = H at hP hS ⊢
    have hP : va_P (dC, dI) bwCl [(h0, .inr (2, [.ref q1, .null])), (q1, .inl (k2, 4, .inr (.inr (.inr (.inr (fun _ => none)))))), (q4, .inr (0, [.ref q5])), (q5, .inl (k6, 63, .inr (.inl (fun _ => 0))))] H := hP
    have hD : va_D X [(h0, .inr (2, [.ref q1, .null])), (q1, .inl (k2, 4, .inr (.inr (.inr (.inr (fun _ => none)))))), (q4, .inr (0, [.ref q5])), (q5, .inl (k6, 63, .inr (.inl (fun _ => 0))))] := hD
    have hK : va_K (dC, dI) bwCl [(k2, .object RX0), (k6, .long)] s := hK
    refine va_astq hx hb hK hP hD hS 1 0 2 0 rfl rfl rfl rfl (vp_in_nI (n := 0) (by decide) (by decide)) dX2_init_31 (fun H locs hP hD hS => ?_)
    have hP : va_P (dC, dI) bwCl [(h0, .inr (2, [.ref q1, .null])), (q1, .inl (k2, 4, .inr (.inr (.inr (.inr (va_up (fun _ => none) 0 (some q4))))))), (q4, .inr (0, [.ref q5])), (q5, .inl (k6, 63, .inr (.inl (fun _ => 0))))] H := hP
    have hD : va_D X [(h0, .inr (2, [.ref q1, .null])), (q1, .inl (k2, 4, .inr (.inr (.inr (.inr (va_up (fun _ => none) 0 (some q4))))))), (q4, .inr (0, [.ref q5])), (q5, .inl (k6, 63, .inr (.inl (fun _ => 0))))] := hD
    refine lv_iinc (v := 1) (lv' := [(1, .int 1), (0, .ref h0)]) hx hb dX2_init_32 hl (k := 0) rfl ((by decide)) (by decide) rfl (fun ls hl => ?_)
    refine lv_goto (tgt := 14) hx hb dX2_init_35 (by decide) ?_
    refine lv_iload_n hx hb dX2_init_14 rfl (lv_at hl 0 rfl) ?_
    refine lv_iconst (v := 4) hx hb dX2_init_15 (by decide) ?_
    refine lv_icmp_ge (tgt := 38) hx hb dX2_init_16 (by decide) (fun c7 => ?_) (fun c7 => ?_)
    · exact absurd c7 (by decide)
    · refine lv_aload_n hx hb dX2_init_19 rfl (lv_at hl 1 rfl) ?_
      refine va_get (D := (dC, dI)) (ci := 2) (v := .ref q1) (C := RX2) (T := TX2) (N := 2) hx hb hw igX2 hown hK hP 0 rfl rfl 0 (by decide) (hw _ tw_41) (fun _ h9 => h9) rfl dX2_init_20 ?_
      refine lv_iload_n hx hb dX2_init_23 rfl (lv_at hl 0 rfl) ?_
      refine va_new (D := (dC, dI)) (ci := 0) (fs := [.null]) (C := RX0) (T := TX0) (N := 1) hx hb hw igX0 tyX0 tyX0_ok hown (hw _ tw_15) (hw _ tw_17) (hw _ tw_2) hK hP hD hS hA rfl (fun j hj => by rcases (show j = 0 by omega) with rfl <;> rfl) (Nat.le_of_ble_eq_true rfl) (Nat.le_of_ble_eq_true rfl) dX2_init_24 (fun q8 H hP hD hS => ?_)
      have hP : va_P (dC, dI) bwCl [(h0, .inr (2, [.ref q1, .null])), (q1, .inl (k2, 4, .inr (.inr (.inr (.inr (va_up (fun _ => none) 0 (some q4))))))), (q4, .inr (0, [.ref q5])), (q5, .inl (k6, 63, .inr (.inl (fun _ => 0)))), (q8, .inr (0, [.null]))] H := hP
      have hD : va_D X [(h0, .inr (2, [.ref q1, .null])), (q1, .inl (k2, 4, .inr (.inr (.inr (.inr (va_up (fun _ => none) 0 (some q4))))))), (q4, .inr (0, [.ref q5])), (q5, .inl (k6, 63, .inr (.inl (fun _ => 0)))), (q8, .inr (0, [.null]))] := hD
      refine lv_dup hx hb dX2_init_27 rfl ?_
      have hPc := hP.sub (ws' := [(q8, .inr (0, [.null]))]) [4] rfl
      have hDc := hD.sub (ws' := [(q8, .inr (0, [.null]))]) [4] (by decide) rfl
      have hKc := hK.sub (tys' := []) [] rfl
      have hFc := va_free (wc := [(q8, .inr (0, [.null]))]) hD hS hA [4] rfl
      refine va_callv (va_runIN (As := []) (rest := [.ref q8, .int 1, .ref q1]) ⟨hx, hb, hml, hown, hts⟩ (c_X0_init l dC dI q8 H.size) (⟨va_cnB 0 hts (gi_in hbc tw_20) rfl rfl rfl hN18 (hw _ tw_2) (by decide +kernel) ⟨Nat.le_of_ble_eq_true rfl, Nat.le_of_ble_eq_true rfl⟩, rfl, hw _ tw_19⟩) ⟨fun a U g mk q => by obtain ⟨q0, q1, qP, qK, qD⟩ := q; exact ⟨q0, q1, qP, va_K.moved (u := U) (U := U.calling g mk a) (Vm.Alike.refl U.vm) qK, qD⟩, fun U hU hW => ⟨rfl, by rw [hU], by rw [hU]; exact hPc, va_K.moved hW.alike hKc, hDc.weaken (fun _ _ _ _ => trivial)⟩⟩ rfl rfl hl.1 rfl (lv_room (Nat.le_of_ble_eq_true rfl)) dX2_init_28 ⟨Nat.le_of_ble_eq_true rfl, Nat.le_of_ble_eq_true rfl⟩) hS (fun q _ h => hFc q h) hFc (fun u9 t H1 locs ht hvm hw9 hB hz1 hk1 hS => ?_)
      obtain ⟨q9, k10⟩ := u9
      obtain ⟨hP1, hK1, hD1⟩ := hB
      rw [ht] at hP1
      have hK1 := va_K.moved hvm.symm hK1
      obtain ⟨hP, hD⟩ := va_join (wr := [(h0, .inr (2, [.ref q1, .null])), (q1, .inl (k2, 4, .inr (.inr (.inr (.inr (va_up (fun _ => none) 0 (some q4))))))), (q4, .inr (0, [.ref q5])), (q5, .inl (k6, 63, .inr (.inl (fun _ => 0))))]) (w1 := [(q8, .inr (0, [.ref q9])), (q9, .inl (k10, 63, .inr (.inl (fun _ => 0))))]) hP hD [4] [0, 1, 2, 3] rfl rfl (by decide) (by decide) hk1 hFc hP1 hD1
      have hK := (hK.sub (tys' := [(k2, .object RX0), (k6, .long)]) [0, 1] rfl).app hK1
      generalize H1 = H at hP hS ⊢
      have hP : va_P (dC, dI) bwCl [(h0, .inr (2, [.ref q1, .null])), (q1, .inl (k2, 4, .inr (.inr (.inr (.inr (va_up (fun _ => none) 0 (some q4))))))), (q4, .inr (0, [.ref q5])), (q5, .inl (k6, 63, .inr (.inl (fun _ => 0)))), (q8, .inr (0, [.ref q9])), (q9, .inl (k10, 63, .inr (.inl (fun _ => 0))))] H := hP
      have hD : va_D X [(h0, .inr (2, [.ref q1, .null])), (q1, .inl (k2, 4, .inr (.inr (.inr (.inr (va_up (fun _ => none) 0 (some q4))))))), (q4, .inr (0, [.ref q5])), (q5, .inl (k6, 63, .inr (.inl (fun _ => 0)))), (q8, .inr (0, [.ref q9])), (q9, .inl (k10, 63, .inr (.inl (fun _ => 0))))] := hD
      have hK : va_K (dC, dI) bwCl [(k2, .object RX0), (k6, .long), (k10, .long)] s := hK
      refine va_astq hx hb hK hP hD hS 1 0 4 0 rfl rfl rfl rfl (vp_in_nI (n := 1) (by decide) (by decide)) dX2_init_31 (fun H locs hP hD hS => ?_)
      have hP : va_P (dC, dI) bwCl [(h0, .inr (2, [.ref q1, .null])), (q1, .inl (k2, 4, .inr (.inr (.inr (.inr (va_up (va_up (fun _ => none) 0 (some q4)) 1 (some q8))))))), (q4, .inr (0, [.ref q5])), (q5, .inl (k6, 63, .inr (.inl (fun _ => 0)))), (q8, .inr (0, [.ref q9])), (q9, .inl (k10, 63, .inr (.inl (fun _ => 0))))] H := hP
      have hD : va_D X [(h0, .inr (2, [.ref q1, .null])), (q1, .inl (k2, 4, .inr (.inr (.inr (.inr (va_up (va_up (fun _ => none) 0 (some q4)) 1 (some q8))))))), (q4, .inr (0, [.ref q5])), (q5, .inl (k6, 63, .inr (.inl (fun _ => 0)))), (q8, .inr (0, [.ref q9])), (q9, .inl (k10, 63, .inr (.inl (fun _ => 0))))] := hD
      refine lv_iinc (v := 2) (lv' := [(1, .int 2), (0, .ref h0)]) hx hb dX2_init_32 hl (k := 0) rfl ((by decide)) (by decide) rfl (fun ls hl => ?_)
      refine lv_goto (tgt := 14) hx hb dX2_init_35 (by decide) ?_
      refine lv_iload_n hx hb dX2_init_14 rfl (lv_at hl 0 rfl) ?_
      refine lv_iconst (v := 4) hx hb dX2_init_15 (by decide) ?_
      refine lv_icmp_ge (tgt := 38) hx hb dX2_init_16 (by decide) (fun c11 => ?_) (fun c11 => ?_)
      · exact absurd c11 (by decide)
      · refine lv_aload_n hx hb dX2_init_19 rfl (lv_at hl 1 rfl) ?_
        refine va_get (D := (dC, dI)) (ci := 2) (v := .ref q1) (C := RX2) (T := TX2) (N := 2) hx hb hw igX2 hown hK hP 0 rfl rfl 0 (by decide) (hw _ tw_41) (fun _ h9 => h9) rfl dX2_init_20 ?_
        refine lv_iload_n hx hb dX2_init_23 rfl (lv_at hl 0 rfl) ?_
        refine va_new (D := (dC, dI)) (ci := 0) (fs := [.null]) (C := RX0) (T := TX0) (N := 1) hx hb hw igX0 tyX0 tyX0_ok hown (hw _ tw_15) (hw _ tw_17) (hw _ tw_2) hK hP hD hS hA rfl (fun j hj => by rcases (show j = 0 by omega) with rfl <;> rfl) (Nat.le_of_ble_eq_true rfl) (Nat.le_of_ble_eq_true rfl) dX2_init_24 (fun q12 H hP hD hS => ?_)
        have hP : va_P (dC, dI) bwCl [(h0, .inr (2, [.ref q1, .null])), (q1, .inl (k2, 4, .inr (.inr (.inr (.inr (va_up (va_up (fun _ => none) 0 (some q4)) 1 (some q8))))))), (q4, .inr (0, [.ref q5])), (q5, .inl (k6, 63, .inr (.inl (fun _ => 0)))), (q8, .inr (0, [.ref q9])), (q9, .inl (k10, 63, .inr (.inl (fun _ => 0)))), (q12, .inr (0, [.null]))] H := hP
        have hD : va_D X [(h0, .inr (2, [.ref q1, .null])), (q1, .inl (k2, 4, .inr (.inr (.inr (.inr (va_up (va_up (fun _ => none) 0 (some q4)) 1 (some q8))))))), (q4, .inr (0, [.ref q5])), (q5, .inl (k6, 63, .inr (.inl (fun _ => 0)))), (q8, .inr (0, [.ref q9])), (q9, .inl (k10, 63, .inr (.inl (fun _ => 0)))), (q12, .inr (0, [.null]))] := hD
        refine lv_dup hx hb dX2_init_27 rfl ?_
        have hPc := hP.sub (ws' := [(q12, .inr (0, [.null]))]) [6] rfl
        have hDc := hD.sub (ws' := [(q12, .inr (0, [.null]))]) [6] (by decide) rfl
        have hKc := hK.sub (tys' := []) [] rfl
        have hFc := va_free (wc := [(q12, .inr (0, [.null]))]) hD hS hA [6] rfl
        refine va_callv (va_runIN (As := []) (rest := [.ref q12, .int 2, .ref q1]) ⟨hx, hb, hml, hown, hts⟩ (c_X0_init l dC dI q12 H.size) (⟨va_cnB 0 hts (gi_in hbc tw_20) rfl rfl rfl hN18 (hw _ tw_2) (by decide +kernel) ⟨Nat.le_of_ble_eq_true rfl, Nat.le_of_ble_eq_true rfl⟩, rfl, hw _ tw_19⟩) ⟨fun a U g mk q => by obtain ⟨q0, q1, qP, qK, qD⟩ := q; exact ⟨q0, q1, qP, va_K.moved (u := U) (U := U.calling g mk a) (Vm.Alike.refl U.vm) qK, qD⟩, fun U hU hW => ⟨rfl, by rw [hU], by rw [hU]; exact hPc, va_K.moved hW.alike hKc, hDc.weaken (fun _ _ _ _ => trivial)⟩⟩ rfl rfl hl.1 rfl (lv_room (Nat.le_of_ble_eq_true rfl)) dX2_init_28 ⟨Nat.le_of_ble_eq_true rfl, Nat.le_of_ble_eq_true rfl⟩) hS (fun q _ h => hFc q h) hFc (fun u9 t H1 locs ht hvm hw9 hB hz1 hk1 hS => ?_)
        obtain ⟨q13, k14⟩ := u9
        obtain ⟨hP1, hK1, hD1⟩ := hB
        rw [ht] at hP1
        have hK1 := va_K.moved hvm.symm hK1
        obtain ⟨hP, hD⟩ := va_join (wr := [(h0, .inr (2, [.ref q1, .null])), (q1, .inl (k2, 4, .inr (.inr (.inr (.inr (va_up (va_up (fun _ => none) 0 (some q4)) 1 (some q8))))))), (q4, .inr (0, [.ref q5])), (q5, .inl (k6, 63, .inr (.inl (fun _ => 0)))), (q8, .inr (0, [.ref q9])), (q9, .inl (k10, 63, .inr (.inl (fun _ => 0))))]) (w1 := [(q12, .inr (0, [.ref q13])), (q13, .inl (k14, 63, .inr (.inl (fun _ => 0))))]) hP hD [6] [0, 1, 2, 3, 4, 5] rfl rfl (by decide) (by decide) hk1 hFc hP1 hD1
        have hK := (hK.sub (tys' := [(k2, .object RX0), (k6, .long), (k10, .long)]) [0, 1, 2] rfl).app hK1
        generalize H1 = H at hP hS ⊢
        have hP : va_P (dC, dI) bwCl [(h0, .inr (2, [.ref q1, .null])), (q1, .inl (k2, 4, .inr (.inr (.inr (.inr (va_up (va_up (fun _ => none) 0 (some q4)) 1 (some q8))))))), (q4, .inr (0, [.ref q5])), (q5, .inl (k6, 63, .inr (.inl (fun _ => 0)))), (q8, .inr (0, [.ref q9])), (q9, .inl (k10, 63, .inr (.inl (fun _ => 0)))), (q12, .inr (0, [.ref q13])), (q13, .inl (k14, 63, .inr (.inl (fun _ => 0))))] H := hP
        have hD : va_D X [(h0, .inr (2, [.ref q1, .null])), (q1, .inl (k2, 4, .inr (.inr (.inr (.inr (va_up (va_up (fun _ => none) 0 (some q4)) 1 (some q8))))))), (q4, .inr (0, [.ref q5])), (q5, .inl (k6, 63, .inr (.inl (fun _ => 0)))), (q8, .inr (0, [.ref q9])), (q9, .inl (k10, 63, .inr (.inl (fun _ => 0)))), (q12, .inr (0, [.ref q13])), (q13, .inl (k14, 63, .inr (.inl (fun _ => 0))))] := hD
        have hK : va_K (dC, dI) bwCl [(k2, .object RX0), (k6, .long), (k10, .long), (k14, .long)] s := hK
        refine va_astq hx hb hK hP hD hS 1 0 6 0 rfl rfl rfl rfl (vp_in_nI (n := 2) (by decide) (by decide)) dX2_init_31 (fun H locs hP hD hS => ?_)
        have hP : va_P (dC, dI) bwCl [(h0, .inr (2, [.ref q1, .null])), (q1, .inl (k2, 4, .inr (.inr (.inr (.inr (va_up (va_up (va_up (fun _ => none) 0 (some q4)) 1 (some q8)) 2 (some q12))))))), (q4, .inr (0, [.ref q5])), (q5, .inl (k6, 63, .inr (.inl (fun _ => 0)))), (q8, .inr (0, [.ref q9])), (q9, .inl (k10, 63, .inr (.inl (fun _ => 0)))), (q12, .inr (0, [.ref q13])), (q13, .inl (k14, 63, .inr (.inl (fun _ => 0))))] H := hP
        have hD : va_D X [(h0, .inr (2, [.ref q1, .null])), (q1, .inl (k2, 4, .inr (.inr (.inr (.inr (va_up (va_up (va_up (fun _ => none) 0 (some q4)) 1 (some q8)) 2 (some q12))))))), (q4, .inr (0, [.ref q5])), (q5, .inl (k6, 63, .inr (.inl (fun _ => 0)))), (q8, .inr (0, [.ref q9])), (q9, .inl (k10, 63, .inr (.inl (fun _ => 0)))), (q12, .inr (0, [.ref q13])), (q13, .inl (k14, 63, .inr (.inl (fun _ => 0))))] := hD
        refine lv_iinc (v := 3) (lv' := [(1, .int 3), (0, .ref h0)]) hx hb dX2_init_32 hl (k := 0) rfl ((by decide)) (by decide) rfl (fun ls hl => ?_)
        refine lv_goto (tgt := 14) hx hb dX2_init_35 (by decide) ?_
        refine lv_iload_n hx hb dX2_init_14 rfl (lv_at hl 0 rfl) ?_
        refine lv_iconst (v := 4) hx hb dX2_init_15 (by decide) ?_
        refine lv_icmp_ge (tgt := 38) hx hb dX2_init_16 (by decide) (fun c15 => ?_) (fun c15 => ?_)
        · exact absurd c15 (by decide)
        · refine lv_aload_n hx hb dX2_init_19 rfl (lv_at hl 1 rfl) ?_
          refine va_get (D := (dC, dI)) (ci := 2) (v := .ref q1) (C := RX2) (T := TX2) (N := 2) hx hb hw igX2 hown hK hP 0 rfl rfl 0 (by decide) (hw _ tw_41) (fun _ h9 => h9) rfl dX2_init_20 ?_
          refine lv_iload_n hx hb dX2_init_23 rfl (lv_at hl 0 rfl) ?_
          refine va_new (D := (dC, dI)) (ci := 0) (fs := [.null]) (C := RX0) (T := TX0) (N := 1) hx hb hw igX0 tyX0 tyX0_ok hown (hw _ tw_15) (hw _ tw_17) (hw _ tw_2) hK hP hD hS hA rfl (fun j hj => by rcases (show j = 0 by omega) with rfl <;> rfl) (Nat.le_of_ble_eq_true rfl) (Nat.le_of_ble_eq_true rfl) dX2_init_24 (fun q16 H hP hD hS => ?_)
          have hP : va_P (dC, dI) bwCl [(h0, .inr (2, [.ref q1, .null])), (q1, .inl (k2, 4, .inr (.inr (.inr (.inr (va_up (va_up (va_up (fun _ => none) 0 (some q4)) 1 (some q8)) 2 (some q12))))))), (q4, .inr (0, [.ref q5])), (q5, .inl (k6, 63, .inr (.inl (fun _ => 0)))), (q8, .inr (0, [.ref q9])), (q9, .inl (k10, 63, .inr (.inl (fun _ => 0)))), (q12, .inr (0, [.ref q13])), (q13, .inl (k14, 63, .inr (.inl (fun _ => 0)))), (q16, .inr (0, [.null]))] H := hP
          have hD : va_D X [(h0, .inr (2, [.ref q1, .null])), (q1, .inl (k2, 4, .inr (.inr (.inr (.inr (va_up (va_up (va_up (fun _ => none) 0 (some q4)) 1 (some q8)) 2 (some q12))))))), (q4, .inr (0, [.ref q5])), (q5, .inl (k6, 63, .inr (.inl (fun _ => 0)))), (q8, .inr (0, [.ref q9])), (q9, .inl (k10, 63, .inr (.inl (fun _ => 0)))), (q12, .inr (0, [.ref q13])), (q13, .inl (k14, 63, .inr (.inl (fun _ => 0)))), (q16, .inr (0, [.null]))] := hD
          refine lv_dup hx hb dX2_init_27 rfl ?_
          have hPc := hP.sub (ws' := [(q16, .inr (0, [.null]))]) [8] rfl
          have hDc := hD.sub (ws' := [(q16, .inr (0, [.null]))]) [8] (by decide) rfl
          have hKc := hK.sub (tys' := []) [] rfl
          have hFc := va_free (wc := [(q16, .inr (0, [.null]))]) hD hS hA [8] rfl
          refine va_callv (va_runIN (As := []) (rest := [.ref q16, .int 3, .ref q1]) ⟨hx, hb, hml, hown, hts⟩ (c_X0_init l dC dI q16 H.size) (⟨va_cnB 0 hts (gi_in hbc tw_20) rfl rfl rfl hN18 (hw _ tw_2) (by decide +kernel) ⟨Nat.le_of_ble_eq_true rfl, Nat.le_of_ble_eq_true rfl⟩, rfl, hw _ tw_19⟩) ⟨fun a U g mk q => by obtain ⟨q0, q1, qP, qK, qD⟩ := q; exact ⟨q0, q1, qP, va_K.moved (u := U) (U := U.calling g mk a) (Vm.Alike.refl U.vm) qK, qD⟩, fun U hU hW => ⟨rfl, by rw [hU], by rw [hU]; exact hPc, va_K.moved hW.alike hKc, hDc.weaken (fun _ _ _ _ => trivial)⟩⟩ rfl rfl hl.1 rfl (lv_room (Nat.le_of_ble_eq_true rfl)) dX2_init_28 ⟨Nat.le_of_ble_eq_true rfl, Nat.le_of_ble_eq_true rfl⟩) hS (fun q _ h => hFc q h) hFc (fun u9 t H1 locs ht hvm hw9 hB hz1 hk1 hS => ?_)
          obtain ⟨q17, k18⟩ := u9
          obtain ⟨hP1, hK1, hD1⟩ := hB
          rw [ht] at hP1
          have hK1 := va_K.moved hvm.symm hK1
          obtain ⟨hP, hD⟩ := va_join (wr := [(h0, .inr (2, [.ref q1, .null])), (q1, .inl (k2, 4, .inr (.inr (.inr (.inr (va_up (va_up (va_up (fun _ => none) 0 (some q4)) 1 (some q8)) 2 (some q12))))))), (q4, .inr (0, [.ref q5])), (q5, .inl (k6, 63, .inr (.inl (fun _ => 0)))), (q8, .inr (0, [.ref q9])), (q9, .inl (k10, 63, .inr (.inl (fun _ => 0)))), (q12, .inr (0, [.ref q13])), (q13, .inl (k14, 63, .inr (.inl (fun _ => 0))))]) (w1 := [(q16, .inr (0, [.ref q17])), (q17, .inl (k18, 63, .inr (.inl (fun _ => 0))))]) hP hD [8] [0, 1, 2, 3, 4, 5, 6, 7] rfl rfl (by decide) (by decide) hk1 hFc hP1 hD1
          have hK := (hK.sub (tys' := [(k2, .object RX0), (k6, .long), (k10, .long), (k14, .long)]) [0, 1, 2, 3] rfl).app hK1
          generalize H1 = H at hP hS ⊢
          have hP : va_P (dC, dI) bwCl [(h0, .inr (2, [.ref q1, .null])), (q1, .inl (k2, 4, .inr (.inr (.inr (.inr (va_up (va_up (va_up (fun _ => none) 0 (some q4)) 1 (some q8)) 2 (some q12))))))), (q4, .inr (0, [.ref q5])), (q5, .inl (k6, 63, .inr (.inl (fun _ => 0)))), (q8, .inr (0, [.ref q9])), (q9, .inl (k10, 63, .inr (.inl (fun _ => 0)))), (q12, .inr (0, [.ref q13])), (q13, .inl (k14, 63, .inr (.inl (fun _ => 0)))), (q16, .inr (0, [.ref q17])), (q17, .inl (k18, 63, .inr (.inl (fun _ => 0))))] H := hP
          have hD : va_D X [(h0, .inr (2, [.ref q1, .null])), (q1, .inl (k2, 4, .inr (.inr (.inr (.inr (va_up (va_up (va_up (fun _ => none) 0 (some q4)) 1 (some q8)) 2 (some q12))))))), (q4, .inr (0, [.ref q5])), (q5, .inl (k6, 63, .inr (.inl (fun _ => 0)))), (q8, .inr (0, [.ref q9])), (q9, .inl (k10, 63, .inr (.inl (fun _ => 0)))), (q12, .inr (0, [.ref q13])), (q13, .inl (k14, 63, .inr (.inl (fun _ => 0)))), (q16, .inr (0, [.ref q17])), (q17, .inl (k18, 63, .inr (.inl (fun _ => 0))))] := hD
          have hK : va_K (dC, dI) bwCl [(k2, .object RX0), (k6, .long), (k10, .long), (k14, .long), (k18, .long)] s := hK
          refine va_astq hx hb hK hP hD hS 1 0 8 0 rfl rfl rfl rfl (vp_in_nI (n := 3) (by decide) (by decide)) dX2_init_31 (fun H locs hP hD hS => ?_)
          have hP : va_P (dC, dI) bwCl [(h0, .inr (2, [.ref q1, .null])), (q1, .inl (k2, 4, .inr (.inr (.inr (.inr (va_up (va_up (va_up (va_up (fun _ => none) 0 (some q4)) 1 (some q8)) 2 (some q12)) 3 (some q16))))))), (q4, .inr (0, [.ref q5])), (q5, .inl (k6, 63, .inr (.inl (fun _ => 0)))), (q8, .inr (0, [.ref q9])), (q9, .inl (k10, 63, .inr (.inl (fun _ => 0)))), (q12, .inr (0, [.ref q13])), (q13, .inl (k14, 63, .inr (.inl (fun _ => 0)))), (q16, .inr (0, [.ref q17])), (q17, .inl (k18, 63, .inr (.inl (fun _ => 0))))] H := hP
          have hD : va_D X [(h0, .inr (2, [.ref q1, .null])), (q1, .inl (k2, 4, .inr (.inr (.inr (.inr (va_up (va_up (va_up (va_up (fun _ => none) 0 (some q4)) 1 (some q8)) 2 (some q12)) 3 (some q16))))))), (q4, .inr (0, [.ref q5])), (q5, .inl (k6, 63, .inr (.inl (fun _ => 0)))), (q8, .inr (0, [.ref q9])), (q9, .inl (k10, 63, .inr (.inl (fun _ => 0)))), (q12, .inr (0, [.ref q13])), (q13, .inl (k14, 63, .inr (.inl (fun _ => 0)))), (q16, .inr (0, [.ref q17])), (q17, .inl (k18, 63, .inr (.inl (fun _ => 0))))] := hD
          refine lv_iinc (v := 4) (lv' := [(1, .int 4), (0, .ref h0)]) hx hb dX2_init_32 hl (k := 0) rfl ((by decide)) (by decide) rfl (fun ls hl => ?_)
          refine lv_goto (tgt := 14) hx hb dX2_init_35 (by decide) ?_
          refine lv_iload_n hx hb dX2_init_14 rfl (lv_at hl 0 rfl) ?_
          refine lv_iconst (v := 4) hx hb dX2_init_15 (by decide) ?_
          refine lv_icmp_ge (tgt := 38) hx hb dX2_init_16 (by decide) (fun c19 => ?_) (fun c19 => ?_)
          · refine lv_aload_n hx hb dX2_init_38 rfl (lv_at hl 1 rfl) ?_
            refine va_new (D := (dC, dI)) (ci := 1) (fs := [.null, .int 0]) (C := RX1) (T := TX1) (N := 2) hx hb hw igX1 tyX1 tyX1_ok hown (hw _ tw_27) (hw _ tw_28) (hw _ tw_3) hK hP hD hS hA rfl (fun j hj => by rcases (show j = 0 ∨ j = 1 by omega) with rfl | rfl <;> rfl) (Nat.le_of_ble_eq_true rfl) (Nat.le_of_ble_eq_true rfl) dX2_init_39 (fun q20 H hP hD hS => ?_)
            have hP : va_P (dC, dI) bwCl [(h0, .inr (2, [.ref q1, .null])), (q1, .inl (k2, 4, .inr (.inr (.inr (.inr (va_up (va_up (va_up (va_up (fun _ => none) 0 (some q4)) 1 (some q8)) 2 (some q12)) 3 (some q16))))))), (q4, .inr (0, [.ref q5])), (q5, .inl (k6, 63, .inr (.inl (fun _ => 0)))), (q8, .inr (0, [.ref q9])), (q9, .inl (k10, 63, .inr (.inl (fun _ => 0)))), (q12, .inr (0, [.ref q13])), (q13, .inl (k14, 63, .inr (.inl (fun _ => 0)))), (q16, .inr (0, [.ref q17])), (q17, .inl (k18, 63, .inr (.inl (fun _ => 0)))), (q20, .inr (1, [.null, .int 0]))] H := hP
            have hD : va_D X [(h0, .inr (2, [.ref q1, .null])), (q1, .inl (k2, 4, .inr (.inr (.inr (.inr (va_up (va_up (va_up (va_up (fun _ => none) 0 (some q4)) 1 (some q8)) 2 (some q12)) 3 (some q16))))))), (q4, .inr (0, [.ref q5])), (q5, .inl (k6, 63, .inr (.inl (fun _ => 0)))), (q8, .inr (0, [.ref q9])), (q9, .inl (k10, 63, .inr (.inl (fun _ => 0)))), (q12, .inr (0, [.ref q13])), (q13, .inl (k14, 63, .inr (.inl (fun _ => 0)))), (q16, .inr (0, [.ref q17])), (q17, .inl (k18, 63, .inr (.inl (fun _ => 0)))), (q20, .inr (1, [.null, .int 0]))] := hD
            refine lv_dup hx hb dX2_init_42 rfl ?_
            have hPc := hP.sub (ws' := [(q20, .inr (1, [.null, .int 0]))]) [10] rfl
            have hDc := hD.sub (ws' := [(q20, .inr (1, [.null, .int 0]))]) [10] (by decide) rfl
            have hKc := hK.sub (tys' := []) [] rfl
            have hFc := va_free (wc := [(q20, .inr (1, [.null, .int 0]))]) hD hS hA [10] rfl
            refine va_callv (va_runIN (As := []) (rest := [.ref q20, .ref h0]) ⟨hx, hb, hml, hown, hts⟩ (c_X1_init l dC dI q20 H.size) (⟨va_cnB 0 hts (gi_in hbc tw_31) rfl rfl rfl hN29 (hw _ tw_3) (by decide +kernel) ⟨Nat.le_of_ble_eq_true rfl, Nat.le_of_ble_eq_true rfl⟩, rfl, hw _ tw_30⟩) ⟨fun a U g mk q => by obtain ⟨q0, q1, qP, qK, qD⟩ := q; exact ⟨q0, q1, qP, va_K.moved (u := U) (U := U.calling g mk a) (Vm.Alike.refl U.vm) qK, qD⟩, fun U hU hW => ⟨rfl, by rw [hU], by rw [hU]; exact hPc, va_K.moved hW.alike hKc, hDc.weaken (fun _ _ _ _ => trivial)⟩⟩ rfl rfl hl.1 rfl (lv_room (Nat.le_of_ble_eq_true rfl)) dX2_init_43 ⟨Nat.le_of_ble_eq_true rfl, Nat.le_of_ble_eq_true rfl⟩) hS (fun q _ h => hFc q h) hFc (fun u9 t H1 locs ht hvm hw9 hB hz1 hk1 hS => ?_)
            obtain ⟨q21, k22⟩ := u9
            obtain ⟨hP1, hK1, hD1⟩ := hB
            rw [ht] at hP1
            have hK1 := va_K.moved hvm.symm hK1
            obtain ⟨hP, hD⟩ := va_join (wr := [(h0, .inr (2, [.ref q1, .null])), (q1, .inl (k2, 4, .inr (.inr (.inr (.inr (va_up (va_up (va_up (va_up (fun _ => none) 0 (some q4)) 1 (some q8)) 2 (some q12)) 3 (some q16))))))), (q4, .inr (0, [.ref q5])), (q5, .inl (k6, 63, .inr (.inl (fun _ => 0)))), (q8, .inr (0, [.ref q9])), (q9, .inl (k10, 63, .inr (.inl (fun _ => 0)))), (q12, .inr (0, [.ref q13])), (q13, .inl (k14, 63, .inr (.inl (fun _ => 0)))), (q16, .inr (0, [.ref q17])), (q17, .inl (k18, 63, .inr (.inl (fun _ => 0))))]) (w1 := [(q20, .inr (1, [.ref q21, .int 0])), (q21, .inl (k22, 530, .inl (fun _ => 0)))]) hP hD [10] [0, 1, 2, 3, 4, 5, 6, 7, 8, 9] rfl rfl (by decide) (by decide) hk1 hFc hP1 hD1
            have hK := (hK.sub (tys' := [(k2, .object RX0), (k6, .long), (k10, .long), (k14, .long), (k18, .long)]) [0, 1, 2, 3, 4] rfl).app hK1
            generalize H1 = H at hP hS ⊢
            have hP : va_P (dC, dI) bwCl [(h0, .inr (2, [.ref q1, .null])), (q1, .inl (k2, 4, .inr (.inr (.inr (.inr (va_up (va_up (va_up (va_up (fun _ => none) 0 (some q4)) 1 (some q8)) 2 (some q12)) 3 (some q16))))))), (q4, .inr (0, [.ref q5])), (q5, .inl (k6, 63, .inr (.inl (fun _ => 0)))), (q8, .inr (0, [.ref q9])), (q9, .inl (k10, 63, .inr (.inl (fun _ => 0)))), (q12, .inr (0, [.ref q13])), (q13, .inl (k14, 63, .inr (.inl (fun _ => 0)))), (q16, .inr (0, [.ref q17])), (q17, .inl (k18, 63, .inr (.inl (fun _ => 0)))), (q20, .inr (1, [.ref q21, .int 0])), (q21, .inl (k22, 530, .inl (fun _ => 0)))] H := hP
            have hD : va_D X [(h0, .inr (2, [.ref q1, .null])), (q1, .inl (k2, 4, .inr (.inr (.inr (.inr (va_up (va_up (va_up (va_up (fun _ => none) 0 (some q4)) 1 (some q8)) 2 (some q12)) 3 (some q16))))))), (q4, .inr (0, [.ref q5])), (q5, .inl (k6, 63, .inr (.inl (fun _ => 0)))), (q8, .inr (0, [.ref q9])), (q9, .inl (k10, 63, .inr (.inl (fun _ => 0)))), (q12, .inr (0, [.ref q13])), (q13, .inl (k14, 63, .inr (.inl (fun _ => 0)))), (q16, .inr (0, [.ref q17])), (q17, .inl (k18, 63, .inr (.inl (fun _ => 0)))), (q20, .inr (1, [.ref q21, .int 0])), (q21, .inl (k22, 530, .inl (fun _ => 0)))] := hD
            have hK : va_K (dC, dI) bwCl [(k2, .object RX0), (k6, .long), (k10, .long), (k14, .long), (k18, .long), (k22, .char)] s := hK
            refine va_putF (D := (dC, dI)) (ci := 2) (v := .ref q20) (ty := .object "BitBoard$Signs") (C := RX2) (T := TX2) (N := 2) hx hb hw igX2 tyX2 tyX2_ok nmX2 hown hK hP hD hS 0 rfl rfl 1 (by decide) (hw _ tw_42) (fun _ h9 => h9) rfl hin rfl (by decide +kernel) rfl rfl (Nat.le_of_ble_eq_true rfl) dX2_init_46 (fun H locs hP hD hS => ?_)
            have hP : va_P (dC, dI) bwCl [(h0, .inr (2, [.ref q1, .ref q20])), (q1, .inl (k2, 4, .inr (.inr (.inr (.inr (va_up (va_up (va_up (va_up (fun _ => none) 0 (some q4)) 1 (some q8)) 2 (some q12)) 3 (some q16))))))), (q4, .inr (0, [.ref q5])), (q5, .inl (k6, 63, .inr (.inl (fun _ => 0)))), (q8, .inr (0, [.ref q9])), (q9, .inl (k10, 63, .inr (.inl (fun _ => 0)))), (q12, .inr (0, [.ref q13])), (q13, .inl (k14, 63, .inr (.inl (fun _ => 0)))), (q16, .inr (0, [.ref q17])), (q17, .inl (k18, 63, .inr (.inl (fun _ => 0)))), (q20, .inr (1, [.ref q21, .int 0])), (q21, .inl (k22, 530, .inl (fun _ => 0)))] H := hP
            have hD : va_D X [(h0, .inr (2, [.ref q1, .ref q20])), (q1, .inl (k2, 4, .inr (.inr (.inr (.inr (va_up (va_up (va_up (va_up (fun _ => none) 0 (some q4)) 1 (some q8)) 2 (some q12)) 3 (some q16))))))), (q4, .inr (0, [.ref q5])), (q5, .inl (k6, 63, .inr (.inl (fun _ => 0)))), (q8, .inr (0, [.ref q9])), (q9, .inl (k10, 63, .inr (.inl (fun _ => 0)))), (q12, .inr (0, [.ref q13])), (q13, .inl (k14, 63, .inr (.inl (fun _ => 0)))), (q16, .inr (0, [.ref q17])), (q17, .inl (k18, 63, .inr (.inl (fun _ => 0)))), (q20, .inr (1, [.ref q21, .int 0])), (q21, .inl (k22, 530, .inl (fun _ => 0)))] := hD
            refine W.widen (k := 11) (n := 792) (Nat.le_of_ble_eq_true rfl) (Nat.le_of_ble_eq_true rfl) ?_
            exact W.vret hx hb hr (fun t ht hW => ⟨⟨((h0, q1, q20, q21), (tb4 q4 q8 q12 q16, tb4 q5 q9 q13 q17), (k2, tb4 k6 k10 k14 k18, k22)), rfl, rfl, by rw [ht]; exact hP.sub [0, 1, 10, 11, 2, 4, 6, 8, 3, 5, 7, 9] rfl, va_K.moved hW.alike (hK.sub [0, 5, 1, 2, 3, 4] rfl), hD.sub [0, 1, 10, 11, 2, 4, 6, 8, 3, 5, 7, 9] (by decide) rfl⟩, hS.F ht⟩) hS.2.2 dX2_init_49
          · exact absurd (by decide) c19
end
section
/-! bits of a long, of a row -/
def bl (x : Int64) (i : Nat) : Bool := x.toBitVec.getLsbD i
theorem bl_and (x y : Int64) (i : Nat) : bl (x &&& y) i = (bl x i && bl y i) := by
  unfold bl
  rw [Int64.toBitVec_and, BitVec.getLsbD_and]
theorem bl_or (x y : Int64) (i : Nat) : bl (x ||| y) i = (bl x i || bl y i) := by
  unfold bl
  rw [Int64.toBitVec_or, BitVec.getLsbD_or]
theorem bl_xor (x y : Int64) (i : Nat) : bl (x ^^^ y) i = (bl x i ^^ bl y i) := by
  unfold bl
  rw [Int64.toBitVec_xor, BitVec.getLsbD_xor]
theorem bl_ext {x y : Int64} (h : ∀ i, i < 64 → bl x i = bl y i) : x = y := wb_inj (BitVec.eq_of_getLsbD_eq (fun i hi => h i hi))
theorem bl_lN (n i : Nat) : bl (lN n) i = (decide (i < 64) && n.testBit i) := by
  unfold bl
  rw [wb_tb, BitVec.getLsbD_ofNat]
theorem bl_lt {n i : Nat} (h : n < 2 ^ 64) : bl (lN n) i = n.testBit i := by
  rw [bl_lN]
  by_cases hi : i < 64
  · simp [hi]
  · have : n.testBit i = false := Nat.testBit_lt_two_pow (Nat.lt_of_lt_of_le h (Nat.pow_le_pow_right (by decide) (by omega)))
    simp [this]
theorem bl_0 (i : Nat) : bl 0 i = false := by
  rw [show (0 : Int64) = lN 0 from rfl, bl_lN, Nat.zero_testBit, Bool.and_false]
theorem bl_m1 {i : Nat} (h : i < 64) : bl (-1) i = true := by
  rw [show (-1 : Int64) = lN (2 ^ 64 - 1) by decide +kernel, bl_lN, Nat.testBit_two_pow_sub_one]
  simp [h]
theorem bl_big {x : Int64} {i : Nat} (h : 64 ≤ i) : bl x i = false := BitVec.getLsbD_of_ge _ _ h
theorem bl_not (x : Int64) {i : Nat} (h : i < 64) : bl (x ^^^ (-1)) i = !bl x i := by
  rw [bl_xor, bl_m1 h, Bool.xor_true]
theorem bl_ne0 {x : Int64} (h : ¬ x = 0) : ∃ i, i < 64 ∧ bl x i = true := by
  apply Classical.byContradiction
  intro hn
  apply h
  apply bl_ext
  intro i hi
  rw [bl_0]
  cases hb : bl x i with
  | false => rfl
  | true => exact absurd ⟨i, hi, hb⟩ hn
theorem bl_eq0 {x : Int64} (h : x = 0) (i : Nat) : bl x i = false := by
  rw [h, bl_0]
theorem bl_shr {k : Nat} (hk : k < 64) (x : Int64) (i : Nat) : bl (x.toUInt64 >>> ((nI k).toInt64.toUInt64 &&& Int64.toUInt64 63)).toInt64 i = bl x (k + i) := by
  obtain ⟨n, hn, rfl⟩ := wb_of x
  rw [wb_shr hn hk, bl_lt hn, bl_lt (Nat.lt_of_le_of_lt (Nat.div_le_self _ _) hn), Nat.testBit_div_two_pow, Nat.add_comm]
theorem bl_shl {k : Nat} (hk : k < 64) (x : Int64) {i : Nat} (hi : i < 64) : bl (x <<< ((nI k).toInt64 &&& 63)) i = (decide (k ≤ i) && bl x (i - k)) := by
  obtain ⟨n, hn, rfl⟩ := wb_of x
  rw [wb_shl n hk, bl_lN, bl_lt hn, ← Nat.shiftLeft_eq, Nat.testBit_shiftLeft]
  simp [hi]
/-- the lowest bits -/
theorem lb_bit (c : Int32) {k : Nat} (hk : k < 64) : bl (fX0_lowBits c) k = decide ((k : Int) < c.toInt) := by
  unfold fX0_lowBits
  have e0 : (0 : Int32).toInt = 0 := rfl
  have e64 : (64 : Int32).toInt = 64 := rfl
  by_cases c1 : 0 < c
  · rw [if_pos c1]
    rw [Int32.lt_iff_toInt_lt] at c1
    by_cases c2 : c < 64
    · rw [if_pos c2]
      rw [Int32.lt_iff_toInt_lt] at c2
      obtain ⟨n, hn, rfl⟩ := nI_of (x := c) (by rw [Int32.lt_iff_toInt_lt]; omega)
      rw [nI_toInt hn] at c1 c2 ⊢
      have h1 : 1 ≤ 1 * 2 ^ n := by
        have := Nat.two_pow_pos n
        omega
      rw [show (1 : Int64) = lN 1 from rfl, wb_shl 1 (by omega), lN_sub h1, Nat.one_mul, bl_lN, Nat.testBit_two_pow_sub_one]
      by_cases h : k < n
      · have h' : (k : Int) < (n : Int) := by omega
        simp [hk, h, h']
      · have h' : ¬ (k : Int) < (n : Int) := by omega
        simp [hk, h, h']
    · rw [if_neg c2]
      rw [Int32.lt_iff_toInt_lt] at c2
      rw [bl_m1 hk]
      exact (decide_eq_true (by omega)).symm
  · rw [if_neg c1]
    rw [Int32.lt_iff_toInt_lt] at c1
    rw [bl_0]
    exact (decide_eq_false (by omega)).symm
/-- bit k of a row -/
def rb (w : Nat → Int64) (k : Nat) : Bool := bl (w (k / 64)) (k % 64)
theorem rb_at (w : Nat → Int64) (i : Nat) {k : Nat} (hk : k < 64) : rb w (64 * i + k) = bl (w i) k := by
  unfold rb
  rw [show (64 * i + k) / 64 = i by omega, show (64 * i + k) % 64 = k by omega]
theorem m64 (b i : Nat) (hb : b ≤ 5000) (hi : i < 63) : (nI b - 64 * nI i).toInt = (b : Int) - 64 * i := by
  rw [show (64 : Int32) = nI 64 from rfl, pk_mul, pk_sub_toInt (by omega) (by omega)]
  omega
theorem lb64 (b i : Nat) {k : Nat} (hb : b ≤ 5000) (hi : i < 63) (hk : k < 64) : bl (fX0_lowBits (nI b - 64 * nI i)) k = decide (64 * i + k < b) := by
  rw [lb_bit _ hk, m64 b i hb hi]
  by_cases h : 64 * i + k < b
  · rw [decide_eq_true h, decide_eq_true (by omega)]
  · rw [decide_eq_false h, decide_eq_false (by omega)]
theorem mk_bit (a b i : Nat) {k : Nat} (ha : a ≤ 5000) (hb : b ≤ 5000) (hi : i < 63) (hk : k < 64) : bl (mkC (nI a) (nI b) i) k = (decide (64 * i + k < b) && !decide (64 * i + k < a)) := by
  unfold mkC
  rw [bl_and, bl_not _ hk, lb64 b i hb hi hk, lb64 a i ha hi hk]
/-- how many of the first m are true -/
def cnt (b : Nat → Bool) : Nat → Nat
  | 0 => 0
  | m + 1 => cnt b m + (if b m = true then 1 else 0)
theorem cnt_c {b d : Nat → Bool} : ∀ m, (∀ k, k < m → b k = d k) → cnt b m = cnt d m := by
  intro m
  induction m with
  | zero => exact fun _ => rfl
  | succ m ih =>
    intro h
    show cnt b m + _ = cnt d m + _
    rw [ih (fun k hk => h k (by omega)), h m (by omega)]
theorem cnt_a (b : Nat → Bool) (m : Nat) : ∀ k, cnt b (m + k) = cnt b m + cnt (fun i => b (m + i)) k := by
  intro k
  induction k with
  | zero => rfl
  | succ k ih =>
    show cnt b (m + k) + (if b (m + k) = true then 1 else 0) = cnt b m + (cnt (fun i => b (m + i)) k + (if b (m + k) = true then 1 else 0))
    rw [ih, Nat.add_assoc]
theorem cnt_s (b : Nat → Bool) (m : Nat) : cnt b (m + 1) = (if b 0 = true then 1 else 0) + cnt (fun i => b (i + 1)) m := by
  rw [Nat.add_comm m 1, cnt_a]
  have e : (fun i => b (1 + i)) = (fun i => b (i + 1)) := by
    funext i
    rw [Nat.add_comm]
  rw [e]
  show 0 + _ + _ = _
  rw [Nat.zero_add]
theorem cnt_le (b : Nat → Bool) : ∀ m, cnt b m ≤ m := by
  intro m
  induction m with
  | zero => exact Nat.le_refl _
  | succ m ih =>
    show cnt b m + _ ≤ m + 1
    by_cases h : b m = true
    · rw [if_pos h]
      omega
    · rw [if_neg h]
      omega
theorem sd_cnt : ∀ m n, sd 2 m n = cnt n.testBit m := by
  intro m
  induction m with
  | zero => exact fun _ => rfl
  | succ m ih =>
    intro n
    rw [cnt_s]
    show n % 2 + sd 2 m (n / 2) = _
    rw [ih (n / 2)]
    have e : (fun i => n.testBit (i + 1)) = (n / 2).testBit := by
      funext i
      rw [Nat.testBit_succ]
    rw [e]
    congr 1
    rw [Nat.testBit_zero]
    by_cases h : n % 2 = 1
    · simp [h]
    · have h0 : n % 2 = 0 := by omega
      simp [h0]
theorem pcN_cnt (x : Int64) : pcN x = cnt (bl x) 64 := by
  obtain ⟨n, hn, rfl, -, h2⟩ := bc_ex x
  rw [h2, sd_cnt]
  exact cnt_c 64 (fun k _ => (bl_lt hn).symm)
theorem on_sum (w : Nat → Int64) : ∀ i, sI (bcW w) i = nI (cnt (rb w) (64 * i)) := by
  intro i
  induction i with
  | zero => rfl
  | succ i ih =>
    show sI (bcW w) i + fJ7_bitCount (w i) = _
    rw [ih, bc_eq, nI_add, pcN_cnt, Nat.mul_succ, cnt_a]
    congr 2
    exact cnt_c 64 (fun k hk => (rb_at w i hk).symm)
theorem on_eq (w : Nat → Int64) : fX0_ones w = nI (cnt (rb w) 4032) := on_sum w 63
/-! the lowest bit, the highest -/
theorem low_ex : ∀ (m n : Nat), n ≤ m → 0 < n → ∃ r q, n = 2 ^ r * (2 * q + 1) := by
  intro m
  induction m with
  | zero =>
    intro n h h0
    omega
  | succ m ih =>
    intro n h h0
    by_cases e : n % 2 = 1
    · exact ⟨0, n / 2, by rw [Nat.pow_zero]; omega⟩
    · obtain ⟨r, q, hq⟩ := ih (n / 2) (by omega) (by omega)
      exact ⟨r + 1, q, by rw [Nat.pow_succ, Nat.mul_assoc, Nat.mul_left_comm, ← hq]; omega⟩
theorem low_bit (r q k : Nat) : (2 ^ r * (2 * q + 1)).testBit k = (decide (r ≤ k) && (2 * q + 1).testBit (k - r)) := by
  rw [Nat.mul_comm, ← Nat.shiftLeft_eq, Nat.testBit_shiftLeft]
theorem low_m1 (r q : Nat) : 2 ^ r * (2 * q + 1) - 1 = 2 ^ r * (2 * q) + (2 ^ r - 1) := by
  have := Nat.two_pow_pos r
  rw [Nat.mul_add]
  omega
theorem low_mb (r q k : Nat) : (2 ^ r * (2 * q + 1) - 1).testBit k = if k < r then true else (2 * q).testBit (k - r) := by
  have := Nat.two_pow_pos r
  rw [low_m1, Nat.testBit_two_pow_mul_add _ (show 2 ^ r - 1 < 2 ^ r by omega), Nat.testBit_two_pow_sub_one]
  by_cases h : k < r
  · rw [if_pos h, if_pos h, decide_eq_true h]
  · rw [if_neg h, if_neg h]
theorem od_bit (q j : Nat) : (2 * q + 1).testBit (j + 1) = (2 * q).testBit (j + 1) := by
  rw [Nat.testBit_succ, Nat.testBit_succ]
  congr 1
  omega
theorem od_0 (q : Nat) : (2 * q + 1).testBit 0 = true ∧ (2 * q).testBit 0 = false := by
  rw [Nat.testBit_zero, Nat.testBit_zero]
  exact ⟨decide_eq_true (by omega), decide_eq_false (by omega)⟩
/-- ~n & (n - 1) -/
theorem nt_n {w r q : Nat} (hr : r < w) (hn : 2 ^ r * (2 * q + 1) < 2 ^ w) : ((2 ^ r * (2 * q + 1)) ^^^ (2 ^ w - 1)) &&& (2 ^ r * (2 * q + 1) - 1) = 2 ^ r - 1 := by
  apply Nat.eq_of_testBit_eq
  intro k
  rw [Nat.testBit_and, Nat.testBit_xor, Nat.testBit_two_pow_sub_one, Nat.testBit_two_pow_sub_one, low_mb]
  by_cases h : k < r
  · rw [if_pos h, low_bit, decide_eq_true h, decide_eq_false (show ¬ r ≤ k by omega), decide_eq_true (show k < w by omega)]
    rfl
  · rw [if_neg h, decide_eq_false h]
    by_cases hk : k < w
    · rw [decide_eq_true hk, low_bit, decide_eq_true (show r ≤ k by omega)]
      obtain ⟨j, rfl⟩ : ∃ j, k = r + j := ⟨k - r, by omega⟩
      rw [Nat.add_sub_cancel_left]
      cases j with
      | zero => simp [(od_0 q).2]
      | succ j =>
        rw [od_bit]
        cases (2 * q).testBit (j + 1) <;> rfl
    · have hz : (2 * q).testBit (k - r) = false := by
        have h1 : (2 ^ r * (2 * q + 1) - 1).testBit k = false := Nat.testBit_lt_two_pow (Nat.lt_of_lt_of_le (show 2 ^ r * (2 * q + 1) - 1 < 2 ^ w by omega) (Nat.pow_le_pow_right (by decide) (by omega)))
        rw [low_mb, if_neg h] at h1
        exact h1
      rw [hz, Bool.and_false]
/-- n & (n - 1): the lowest bit away -/
theorem cl_n {r q k : Nat} : ((2 ^ r * (2 * q + 1)) &&& (2 ^ r * (2 * q + 1) - 1)).testBit k = if k = r then false else (2 ^ r * (2 * q + 1)).testBit k := by
  rw [Nat.testBit_and, low_mb]
  by_cases h : k < r
  · rw [if_pos h, if_neg (show ¬ k = r by omega), Bool.and_true]
  · rw [if_neg h]
    obtain ⟨j, rfl⟩ : ∃ j, k = r + j := ⟨k - r, by omega⟩
    rw [low_bit, Nat.add_sub_cancel_left, decide_eq_true (show r ≤ r + j by omega)]
    cases j with
    | zero => simp [(od_0 q).2]
    | succ j =>
      rw [if_neg (show ¬ r + (j + 1) = r by omega), od_bit]
      cases (2 * q).testBit (j + 1) <;> rfl

theorem nI_md (n : Nat) : nI n = nI (n % 2 ^ 32) := by
  apply Int32.toBitVec_inj.mp
  show BitVec.ofNat 32 n = BitVec.ofNat 32 (n % 2 ^ 32)
  apply BitVec.eq_of_toNat_eq
  rw [BitVec.toNat_ofNat, BitVec.toNat_ofNat, Nat.mod_mod]
theorem nI_z {n : Nat} (h : n < 2 ^ 32) (h0 : 0 < n) : ¬ nI n = 0 := by
  intro e
  have e2 : (nI n).toBitVec.toNat = (0 : Int32).toBitVec.toNat := by rw [e]
  rw [pk_tn h] at e2
  have e3 : (0 : Int32).toBitVec.toNat = 0 := rfl
  omega
theorem nI_m {n : Nat} (h0 : 0 < n) : nI n - 1 = nI (n - 1) := by
  obtain ⟨k, rfl⟩ : ∃ k, n = k + 1 := ⟨n - 1, by omega⟩
  rw [nI_pred, Nat.add_sub_cancel]
theorem gt6 : ∀ r, r < 32 → gJ6_numberOfTrailingZeros (nI (2 ^ r - 1)) = nI r := by decide +kernel
theorem lo_pos (r q : Nat) : 0 < 2 ^ r * (2 * q + 1) := Nat.mul_pos (Nat.two_pow_pos r) (by omega)
theorem lo_lt {r q w : Nat} (h : 2 ^ r * (2 * q + 1) < 2 ^ w) : r < w := by
  rcases Nat.lt_or_ge r w with k | k
  · exact k
  · have h1 : 2 ^ w ≤ 2 ^ r := Nat.pow_le_pow_right (by decide) k
    have h2 : 2 ^ r ≤ 2 ^ r * (2 * q + 1) := Nat.le_mul_of_pos_right _ (by omega)
    omega
theorem nt6 {r q : Nat} (hn : 2 ^ r * (2 * q + 1) < 2 ^ 32) : fJ6_numberOfTrailingZeros (nI (2 ^ r * (2 * q + 1))) = nI r := by
  have hr := lo_lt hn
  have e : nt0 (nI (2 ^ r * (2 * q + 1))) = nI (2 ^ r - 1) := by
    unfold nt0
    rw [nI_m (lo_pos r q), show (-1 : Int32) = nI (2 ^ 32 - 1) by decide +kernel, nx_xor, nx_and, nt_n hr hn]
  unfold fJ6_numberOfTrailingZeros
  rw [e]
  exact gt6 r hr
theorem nt7 {r q : Nat} (hn : 2 ^ r * (2 * q + 1) < 2 ^ 64) : fJ7_numberOfTrailingZeros (lN (2 ^ r * (2 * q + 1))) = nI r := by
  have hr := lo_lt hn
  unfold fJ7_numberOfTrailingZeros
  rw [lN_i, show (32 : Int32) = nI 32 from rfl, wb_shr hn (by decide), lN_i]
  by_cases h : r < 32
  · obtain ⟨s, hs⟩ : ∃ s, 32 = r + (s + 1) := ⟨31 - r, by omega⟩
    have e1 : 2 ^ r * (2 * q + 1) % 2 ^ 32 = 2 ^ r * ((2 * q + 1) % 2 ^ (s + 1)) := by
      rw [hs, Nat.pow_add, Nat.mul_mod_mul_left]
    have e2 : (2 * q + 1) % 2 ^ (s + 1) % 2 = 1 := by
      rw [Nat.mod_mod_of_dvd _ ⟨2 ^ s, by rw [Nat.pow_succ, Nat.mul_comm]⟩]
      omega
    have e3 : (2 * q + 1) % 2 ^ (s + 1) = 2 * ((2 * q + 1) % 2 ^ (s + 1) / 2) + 1 := by omega
    have hlt : 2 ^ r * (2 * q + 1) % 2 ^ 32 < 2 ^ 32 := Nat.mod_lt _ (by decide)
    rw [nI_md (2 ^ r * (2 * q + 1))]
    rw [e1, e3] at hlt ⊢
    rw [if_neg (nI_z hlt (lo_pos _ _)), nt6 hlt]
  · obtain ⟨s, rfl⟩ : ∃ s, r = 32 + s := ⟨r - 32, by omega⟩
    have e1 : 2 ^ (32 + s) * (2 * q + 1) = 2 ^ 32 * (2 ^ s * (2 * q + 1)) := by
      rw [Nat.pow_add, Nat.mul_assoc]
    rw [e1] at hn ⊢
    have hs : 2 ^ s * (2 * q + 1) < 2 ^ 32 := by
      generalize 2 ^ s * (2 * q + 1) = y at hn ⊢
      omega
    rw [nI_md (2 ^ 32 * _), Nat.mul_mod_right, if_pos nI_0, Nat.mul_div_cancel_left _ (by decide), nt6 hs, nI_add]
theorem nt_ok {x : Int64} (h : ¬ x = 0) : ∃ r, r < 64 ∧ bl x r = true ∧ (∀ k, k < r → bl x k = false) ∧ fJ7_numberOfTrailingZeros x = nI r ∧ ∀ k, bl (x &&& (x - 1)) k = if k = r then false else bl x k := by
  obtain ⟨n, hn, rfl⟩ := wb_of x
  have h0 : 0 < n := by
    rcases Nat.eq_zero_or_pos n with e | e
    · subst e
      exact absurd rfl h
    · exact e
  obtain ⟨r, q, rfl⟩ := low_ex n n (Nat.le_refl _) h0
  refine ⟨r, lo_lt hn, ?_, fun k hk => ?_, nt7 hn, fun k => ?_⟩
  · rw [bl_lt hn, low_bit, Nat.sub_self, (od_0 q).1, decide_eq_true (Nat.le_refl r)]
    rfl
  · rw [bl_lt hn, low_bit, decide_eq_false (by omega)]
    rfl
  · rw [show (1 : Int64) = lN 1 from rfl, lN_sub (lo_pos r q), wb_and hn (by omega), bl_lt (Nat.lt_of_le_of_lt Nat.and_le_left hn), bl_lt hn, cl_n]
/-! leading zeros -/
theorem nI_neg {m k : Nat} {K : Int32} (hK : K = -nI k) (h : k ≤ m) : nI m + K = nI (m - k) := by
  rw [hK, ← pk_sub h, Int32.sub_eq_add_neg]
theorem up_pw {s r v : Nat} (h1 : 2 ^ r ≤ v / 2 ^ s) (h2 : v / 2 ^ s < 2 ^ (r + 1)) : 2 ^ (s + r) ≤ v ∧ v < 2 ^ (s + r + 1) := by
  have hp : 0 < 2 ^ s := Nat.two_pow_pos s
  refine ⟨?_, ?_⟩
  · rw [Nat.pow_add, Nat.mul_comm]
    exact (Nat.le_div_iff_mul_le hp).mp h1
  · rw [Nat.add_assoc, Nat.pow_add, Nat.mul_comm]
    exact (Nat.div_lt_iff_lt_mul hp).mp h2
theorem us_n {n : Nat} (hn : n < 2 ^ 32) (s : Int32) (k : Nat) (hs : ((s.toUInt32 &&& Int32.toUInt32 31).toBitVec % 32).toNat = k) : ((nI n).toUInt32 >>> (s.toUInt32 &&& Int32.toUInt32 31)).toInt32 = nI (n / 2 ^ k) := pk_ushrN hn s k hs
theorem nl4 {m v : Nat} (hm : 3 ≤ m) (h1 : 1 ≤ v) (h2 : v < 16) : ∃ r, r ≤ 3 ∧ 2 ^ r ≤ v ∧ v < 2 ^ (r + 1) ∧ nl_4 (nI m) (nI v) = nI (m - r) := by
  unfold nl_4
  by_cases h : v < 4
  · rw [if_pos (show nI v < 4 from nI_lt (b := 4) h (by decide)), us_n (by omega) 1 1 (by decide), pk_sub (by omega)]
    rcases (show v = 1 ∨ v = 2 ∨ v = 3 by omega) with rfl | rfl | rfl
    · exact ⟨0, by decide, by decide, by decide, rfl⟩
    · exact ⟨1, by decide, by decide, by decide, rfl⟩
    · exact ⟨1, by decide, by decide, by decide, rfl⟩
  · rw [if_neg (show ¬ nI v < 4 from nI_nlt (b := 4) (by omega) (by omega)), us_n (by omega) 2 2 (by decide), us_n (by omega) 1 1 (by decide), nI_neg (k := 2) (by decide) (by omega), pk_sub (by omega)]
    have hv : v / 2 ^ 2 = 1 ∨ v / 2 ^ 2 = 2 ∨ v / 2 ^ 2 = 3 := by omega
    rcases hv with e | e | e
    · exact ⟨2, by decide, by omega, by omega, by rw [e]; rfl⟩
    · exact ⟨3, by decide, by omega, by omega, by rw [e]; congr 1⟩
    · exact ⟨3, by decide, by omega, by omega, by rw [e]; congr 1⟩
theorem nl16 {m v : Nat} (hm : 7 ≤ m) (h1 : 1 ≤ v) (h2 : v < 256) : ∃ r, r ≤ 7 ∧ 2 ^ r ≤ v ∧ v < 2 ^ (r + 1) ∧ nl_16 (nI m) (nI v) = nI (m - r) := by
  unfold nl_16
  by_cases h : v < 16
  · rw [if_pos (show nI v < 16 from nI_lt (b := 16) h (by decide))]
    obtain ⟨r, a, b, c, d⟩ := nl4 (m := m) (by omega) h1 h
    exact ⟨r, by omega, b, c, d⟩
  · rw [if_neg (show ¬ nI v < 16 from nI_nlt (b := 16) (by omega) (by omega)), us_n (by omega) 4 4 (by decide), nI_neg (k := 4) (by decide) (by omega)]
    obtain ⟨r, a, b, c, d⟩ := nl4 (m := m - 4) (v := v / 2 ^ 4) (by omega) (by omega) (by omega)
    obtain ⟨e, f⟩ := up_pw b c
    exact ⟨4 + r, by omega, e, f, by rw [d]; congr 1; omega⟩
theorem nl256 {m v : Nat} (hm : 15 ≤ m) (h1 : 1 ≤ v) (h2 : v < 65536) : ∃ r, r ≤ 15 ∧ 2 ^ r ≤ v ∧ v < 2 ^ (r + 1) ∧ nl_256 (nI m) (nI v) = nI (m - r) := by
  unfold nl_256
  by_cases h : v < 256
  · rw [if_pos (show nI v < 256 from nI_lt (b := 256) h (by decide))]
    obtain ⟨r, a, b, c, d⟩ := nl16 (m := m) (by omega) h1 h
    exact ⟨r, by omega, b, c, d⟩
  · rw [if_neg (show ¬ nI v < 256 from nI_nlt (b := 256) (by omega) (by omega)), us_n (by omega) 8 8 (by decide), nI_neg (k := 8) (by decide) (by omega)]
    obtain ⟨r, a, b, c, d⟩ := nl16 (m := m - 8) (v := v / 2 ^ 8) (by omega) (by omega) (by omega)
    obtain ⟨e, f⟩ := up_pw b c
    exact ⟨8 + r, by omega, e, f, by rw [d]; congr 1; omega⟩
theorem nl6 {v : Nat} (h1 : 1 ≤ v) (h2 : v < 2 ^ 32) : ∃ r, r ≤ 31 ∧ 2 ^ r ≤ v ∧ v < 2 ^ (r + 1) ∧ fJ6_numberOfLeadingZeros (nI v) = nI (31 - r) := by
  unfold fJ6_numberOfLeadingZeros
  by_cases hs : v < 2 ^ 31
  · rw [if_pos (show (0 : Int32) < nI v by rw [← nI_0]; exact nI_lt h1 hs)]
    unfold nl_65536
    by_cases h : v < 65536
    · rw [if_pos (show nI v < 65536 from nI_lt (b := 65536) h (by decide))]
      obtain ⟨r, a, b, c, d⟩ := nl256 (m := 31) (by omega) h1 h
      exact ⟨r, by omega, b, c, d⟩
    · rw [if_neg (show ¬ nI v < 65536 from nI_nlt (b := 65536) (by omega) hs), us_n h2 16 16 (by decide), show (31 : Int32) + (-16) = nI 15 by decide]
      obtain ⟨r, a, b, c, d⟩ := nl256 (m := 15) (v := v / 2 ^ 16) (by omega) (by omega) (by omega)
      obtain ⟨e, f⟩ := up_pw b c
      exact ⟨16 + r, by omega, e, f, by rw [d]; congr 1; omega⟩
  · have hng : ¬ (0 : Int32) < nI v := by
      rw [Int32.lt_iff_toInt_lt]
      have e : (nI v).toInt = (v : Int) - 2 ^ 32 := by
        have e1 : (nI v).toInt = (nI v).toBitVec.toInt := rfl
        rw [e1, BitVec.toInt_eq_toNat_cond, pk_tn h2, if_neg (by omega)]
        rfl
      rw [e]
      have e0 : (0 : Int32).toInt = 0 := rfl
      omega
    rw [if_neg hng, if_neg (nI_z h2 (by omega))]
    exact ⟨31, by decide, by omega, by omega, rfl⟩
theorem nl7 {n : Nat} (h0 : 0 < n) (hn : n < 2 ^ 64) : ∃ r, r ≤ 63 ∧ 2 ^ r ≤ n ∧ n < 2 ^ (r + 1) ∧ fJ7_numberOfLeadingZeros (lN n) = nI (63 - r) := by
  unfold fJ7_numberOfLeadingZeros
  rw [show (32 : Int32) = nI 32 from rfl, wb_shr hn (by decide), lN_i, lN_i]
  by_cases h : n < 2 ^ 32
  · rw [show n / 2 ^ 32 = 0 by omega, if_pos nI_0]
    obtain ⟨r, a, b, c, d⟩ := nl6 (v := n) h0 h
    exact ⟨r, by omega, b, c, by rw [d, nI_add]; congr 1; omega⟩
  · rw [if_neg (nI_z (show n / 2 ^ 32 < 2 ^ 32 by omega) (by omega))]
    obtain ⟨r, a, b, c, d⟩ := nl6 (v := n / 2 ^ 32) (by omega) (by omega)
    obtain ⟨e, f⟩ := up_pw b c
    exact ⟨32 + r, by omega, e, f, by rw [d]; congr 1; omega⟩
theorem hi_bit {n r : Nat} (h1 : 2 ^ r ≤ n) (h2 : n < 2 ^ (r + 1)) : n.testBit r = true ∧ ∀ k, r < k → n.testBit k = false := by
  refine ⟨?_, fun k hk => Nat.testBit_lt_two_pow (Nat.lt_of_lt_of_le h2 (Nat.pow_le_pow_right (by decide) hk))⟩
  have hp : 0 < 2 ^ r := Nat.two_pow_pos r
  have e : n / 2 ^ r = 1 := by
    apply Nat.div_eq_of_lt_le
    · rw [Nat.one_mul]
      exact h1
    · rw [Nat.pow_succ] at h2
      rw [show (1 + 1) * 2 ^ r = 2 ^ r * 2 by omega]
      exact h2
  rw [Nat.testBit_eq_decide_div_mod_eq, e]
  rfl
theorem nl_ok {x : Int64} (h : ¬ x = 0) : ∃ r, r < 64 ∧ bl x r = true ∧ (∀ k, r < k → bl x k = false) ∧ fJ7_numberOfLeadingZeros x = nI (63 - r) := by
  obtain ⟨n, hn, rfl⟩ := wb_of x
  have h0 : 0 < n := by
    rcases Nat.eq_zero_or_pos n with e | e
    · subst e
      exact absurd rfl h
    · exact e
  obtain ⟨r, a, b, c, d⟩ := nl7 h0 hn
  obtain ⟨e, f⟩ := hi_bit b c
  exact ⟨r, by omega, by rw [bl_lt hn]; exact e, fun k hk => by rw [bl_lt hn]; exact f k hk, d⟩
/-! first and last -/
def fpv (c : Bool) : Int64 := if c = true then -1 else 0
theorem fpv_b (c : Bool) {k : Nat} (hk : k < 64) : bl (fpv c) k = c := by
  unfold fpv
  cases c with
  | false => exact bl_0 k
  | true => exact bl_m1 hk
theorem ff_bit (w : Nat → Int64) (c : Bool) (p i : Nat) {k : Nat} (hp : p ≤ 4001) (hi : i < 63) (hk : k < 64) : bl (ffW w (nI p) (fpv c) i) k = ((rb w (64 * i + k) ^^ c) && decide (p ≤ 64 * i + k)) := by
  unfold ffW
  rw [bl_and, bl_xor, fpv_b c hk, bl_not _ hk, lb64 p i (by omega) hi hk, rb_at w i hk]
  congr 1
  by_cases h : 64 * i + k < p
  · rw [decide_eq_true h, decide_eq_false (by omega)]
    rfl
  · rw [decide_eq_false h, decide_eq_true (by omega)]
    rfl
theorem lu_bit (w : Nat → Int64) (c : Bool) (p i : Nat) {k : Nat} (hp : p ≤ 4001) (hi : i < 63) (hk : k < 64) : bl (luW w (nI p) (fpv c) i) k = ((rb w (64 * i + k) ^^ c) && decide (64 * i + k ≤ p)) := by
  unfold luW
  rw [bl_and, bl_xor, fpv_b c hk, nI_1, lb64 (p + 1) i (by omega) hi hk, rb_at w i hk]
  congr 1
  by_cases h : 64 * i + k ≤ p
  · rw [decide_eq_true h, decide_eq_true (by omega)]
  · rw [decide_eq_false h, decide_eq_false (by omega)]
def fpF (g : Nat → Bool) (p : Nat) (r : Int32) : Prop := (∃ K, p ≤ K ∧ K < 4032 ∧ g K = true ∧ (∀ k, p ≤ k → k < K → g k = false) ∧ r = nI K) ∨ ((∀ k, p ≤ k → k < 4032 → g k = false) ∧ r = -1)
def fpL (g : Nat → Bool) (p : Nat) (r : Int32) : Prop := (∃ K, K ≤ p ∧ K < 4032 ∧ g K = true ∧ (∀ k, K < k → k ≤ p → k < 4032 → g k = false) ∧ r = nI K) ∨ ((∀ k, k ≤ p → k < 4032 → g k = false) ∧ r = -1)
theorem tf_ {b : Bool} (h1 : b = true) (h2 : b = false) : False := by
  rw [h1] at h2
  cases h2
theorem fpF_u {g : Nat → Bool} {p : Nat} {r q : Int32} (h : fpF g p r) (k : fpF g p q) : r = q := by
  rcases h with ⟨K, a1, a2, a3, a4, rfl⟩ | ⟨a4, rfl⟩
  · rcases k with ⟨L, b1, b2, b3, b4, rfl⟩ | ⟨b4, rfl⟩
    · rcases Nat.lt_trichotomy K L with h | h | h
      · exact (tf_ a3 (b4 K a1 h)).elim
      · rw [h]
      · exact (tf_ b3 (a4 L b1 h)).elim
    · exact (tf_ a3 (b4 K a1 a2)).elim
  · rcases k with ⟨L, b1, b2, b3, b4, rfl⟩ | ⟨b4, rfl⟩
    · exact (tf_ b3 (a4 L b1 b2)).elim
    · rfl
theorem fpL_u {g : Nat → Bool} {p : Nat} {r q : Int32} (h : fpL g p r) (k : fpL g p q) : r = q := by
  rcases h with ⟨K, a1, a2, a3, a4, rfl⟩ | ⟨a4, rfl⟩
  · rcases k with ⟨L, b1, b2, b3, b4, rfl⟩ | ⟨b4, rfl⟩
    · rcases Nat.lt_trichotomy K L with h | h | h
      · exact (tf_ b3 (a4 L h b1 b2)).elim
      · rw [h]
      · exact (tf_ a3 (b4 K h a1 a2)).elim
    · exact (tf_ a3 (b4 K a1 a2)).elim
  · rcases k with ⟨L, b1, b2, b3, b4, rfl⟩ | ⟨b4, rfl⟩
    · exact (tf_ b3 (a4 L b1 b2)).elim
    · rfl
theorem sp64 (K : Nat) (h : K < 4032) : ∃ i k, i < 63 ∧ k < 64 ∧ K = 64 * i + k := ⟨K / 64, K % 64, by omega, by omega, by omega⟩
theorem a_f {b d : Bool} (h : (b && d) = false) (hd : d = true) : b = false := by
  rw [hd, Bool.and_true] at h
  exact h
theorem ff_ok {w : Nat → Int64} {c : Bool} {p : Nat} {r : Int32} (hp : p ≤ 4001) (h : pFF w (nI p) (fpv c) r) : fpF (fun k => rb w k ^^ c) p r := by
  have zero : ∀ i, i < 63 → ffW w (nI p) (fpv c) i = 0 → ∀ k, k < 64 → p ≤ 64 * i + k → (rb w (64 * i + k) ^^ c) = false := by
    intro i hi h0 k hk hle
    have e := ff_bit w c p i hp hi hk
    rw [h0, bl_0] at e
    exact a_f e.symm (decide_eq_true hle)
  rcases h with ⟨i, hi, hz, hne, rfl⟩ | ⟨hz, rfl⟩
  · obtain ⟨q, hq, b1, b2, b3, -⟩ := nt_ok hne
    rw [ff_bit w c p i hp hi hq, Bool.and_eq_true] at b1
    refine Or.inl ⟨64 * i + q, of_decide_eq_true b1.2, by omega, b1.1, ?_, ?_⟩
    · intro k h1 h2
      obtain ⟨i2, k2, g1, g2, rfl⟩ := sp64 k (by omega)
      by_cases hii : i2 < i
      · exact zero i2 g1 (hz i2 hii) k2 g2 h1
      · obtain rfl : i2 = i := by omega
        have e := ff_bit w c p i2 hp g1 g2
        rw [b2 k2 (by omega)] at e
        exact a_f e.symm (decide_eq_true h1)
    · rw [b3, show (64 : Int32) = nI 64 from rfl, pk_mul, nI_add]
  · refine Or.inr ⟨fun k h1 h2 => ?_, rfl⟩
    obtain ⟨i2, k2, g1, g2, rfl⟩ := sp64 k h2
    exact zero i2 g1 (hz i2 g1) k2 g2 h1
theorem lu_ok {w : Nat → Int64} {c : Bool} {p : Nat} {r : Int32} (hp : p ≤ 4001) (h : pLU w (nI p) (fpv c) r) : fpL (fun k => rb w k ^^ c) p r := by
  have zero : ∀ i, i < 63 → luW w (nI p) (fpv c) i = 0 → ∀ k, k < 64 → 64 * i + k ≤ p → (rb w (64 * i + k) ^^ c) = false := by
    intro i hi h0 k hk hle
    have e := lu_bit w c p i hp hi hk
    rw [h0, bl_0] at e
    exact a_f e.symm (decide_eq_true hle)
  rcases h with ⟨i, hi, hz, hne, rfl⟩ | ⟨hz, rfl⟩
  · obtain ⟨q, hq, b1, b2, b3⟩ := nl_ok hne
    rw [lu_bit w c p i hp hi hq, Bool.and_eq_true] at b1
    refine Or.inl ⟨64 * i + q, of_decide_eq_true b1.2, by omega, b1.1, ?_, ?_⟩
    · intro k h1 h2 h3
      obtain ⟨i2, k2, g1, g2, rfl⟩ := sp64 k h3
      by_cases hii : i < i2
      · exact zero i2 g1 (hz i2 hii g1) k2 g2 h2
      · obtain rfl : i2 = i := by omega
        have e := lu_bit w c p i2 hp g1 g2
        rw [b2 k2 (by omega)] at e
        exact a_f e.symm (decide_eq_true h2)
    · rw [b3, show (64 : Int32) = nI 64 from rfl, show (63 : Int32) = nI 63 from rfl, pk_mul, nI_add, pk_sub (by omega)]
      congr 1
      omega
  · refine Or.inr ⟨fun k h1 h2 => ?_, rfl⟩
    obtain ⟨i2, k2, g1, g2, rfl⟩ := sp64 k h2
    exact zero i2 g1 (hz i2 g1) k2 g2 h1
/-! what the changes do to the bits -/
theorem rb_fl (F g : Nat → Int64) {k : Nat} (hk : k < 4032) : rb (fl F g 63) k = bl (F (k / 64)) (k % 64) := by
  unfold rb
  rw [fl_lt _ _ (by omega)]
def chB (what : Int32) (old : Bool) : Bool := if what = 0 then false else if what = 1 then true else !old
theorem ch_bit (w : Nat → Int64) (p0 : Int32) (a b : Nat) (ha : a ≤ 4001) (hb : b ≤ 4001) {k : Nat} (hk : k < 4032) : rb (fl (chW w p0 (nI a) (nI b)) w 63) k = if a ≤ k ∧ k < b then chB p0 (rb w k) else rb w k := by
  rw [rb_fl _ _ hk]
  obtain ⟨i, q, hi, hq, rfl⟩ := sp64 k hk
  rw [show (64 * i + q) / 64 = i by omega, show (64 * i + q) % 64 = q by omega, rb_at w i hq]
  have hm := mk_bit a b i (by omega) (by omega) hi hq
  unfold chW fX0_changed chB
  by_cases h0 : p0 = 0
  · rw [if_pos h0, if_pos h0, bl_and, bl_not _ hq, hm]
    by_cases h : a ≤ 64 * i + q ∧ 64 * i + q < b
    · rw [if_pos h, decide_eq_true h.2, decide_eq_false (by omega)]
      simp
    · rw [if_neg h]
      by_cases h1 : 64 * i + q < b
      · rw [decide_eq_true h1, decide_eq_true (show 64 * i + q < a by omega)]
        simp
      · rw [decide_eq_false h1]
        simp
  · rw [if_neg h0, if_neg h0]
    by_cases h1 : p0 = 1
    · rw [if_pos h1, if_pos h1, bl_or, hm]
      by_cases h : a ≤ 64 * i + q ∧ 64 * i + q < b
      · rw [if_pos h, decide_eq_true h.2, decide_eq_false (by omega)]
        simp
      · rw [if_neg h]
        by_cases h1 : 64 * i + q < b
        · rw [decide_eq_true h1, decide_eq_true (show 64 * i + q < a by omega)]
          simp
        · rw [decide_eq_false h1]
          simp
    · rw [if_neg h1, if_neg h1, bl_xor, hm]
      by_cases h : a ≤ 64 * i + q ∧ 64 * i + q < b
      · rw [if_pos h, decide_eq_true h.2, decide_eq_false (by omega)]
        simp
      · rw [if_neg h]
        by_cases h1 : 64 * i + q < b
        · rw [decide_eq_true h1, decide_eq_true (show 64 * i + q < a by omega)]
          simp
        · rw [decide_eq_false h1]
          simp
def cbB (op : Int32) (x y : Bool) : Bool := if op = 0 then (x && y) else if op = 1 then (x || y) else if op = 2 then (x ^^ y) else (x && !y)
theorem cb_bit (w v : Nat → Int64) (p0 : Int32) {k : Nat} (hk : k < 4032) : rb (fl (cbW w v p0) w 63) k = cbB p0 (rb w k) (rb v k) := by
  rw [rb_fl _ _ hk]
  obtain ⟨i, q, hi, hq, rfl⟩ := sp64 k hk
  rw [show (64 * i + q) / 64 = i by omega, show (64 * i + q) % 64 = q by omega, rb_at w i hq, rb_at v i hq]
  unfold cbW fX0_combined cbB
  by_cases h0 : p0 = 0
  · rw [if_pos h0, if_pos h0, bl_and]
  · rw [if_neg h0, if_neg h0]
    by_cases h1 : p0 = 1
    · rw [if_pos h1, if_pos h1, bl_or]
    · rw [if_neg h1, if_neg h1]
      by_cases h2 : p0 = 2
      · rw [if_pos h2, if_pos h2, bl_xor]
      · rw [if_neg h2, if_neg h2, bl_and, bl_not _ hq]
/-- bit q of a row, nothing behind 4032 -/
def rz (w : Nat → Int64) (q : Nat) : Bool := decide (q < 4032) && rb w q
theorem wa_n (w : Nat → Int64) {n : Nat} (h : n < 2 ^ 30) : fX0_wordAt w (nI n) = if n < 63 then w n else 0 := by
  unfold fX0_wordAt
  rw [if_neg (nI_pos (by omega))]
  by_cases c : n < 63
  · rw [if_neg (show ¬ (63 : Int32) ≤ nI n from nI_ge (b := 63) c (by decide)), if_pos c, nI_clamp (by omega)]
  · rw [if_pos (show (63 : Int32) ≤ nI n from nI_le (a := 63) (by omega) (by omega)), if_neg c]
theorem wa_b (w : Nat → Int64) {n k : Nat} (h : n < 2 ^ 30) (hk : k < 64) : bl (fX0_wordAt w (nI n)) k = rz w (64 * n + k) := by
  rw [wa_n w h]
  unfold rz
  by_cases c : n < 63
  · rw [if_pos c, decide_eq_true (by omega), rb_at w n hk]
    rfl
  · rw [if_neg c, decide_eq_false (by omega), bl_0]
    rfl
theorem bf_bit (w : Nat → Int64) {p k : Nat} (hp : p < 2 ^ 20) (hk : k < 64) : bl (fX0_bitsFrom w (nI p)) k = rz w (p + k) := by
  have e6 : nI p >>> ((6 : Int32) &&& 31) = nI (p / 2 ^ 6) := pk_shrN (by omega) _ 6 (by decide)
  have em : nI p &&& 63 = nI (p % 2 ^ 6) := pk_andN (by omega) 6 (by decide)
  unfold fX0_bitsFrom
  rw [e6, em]
  by_cases h : p % 2 ^ 6 = 0
  · rw [if_pos (by rw [h]; rfl), wa_b w (by omega) hk]
    congr 1
    omega
  · rw [if_neg (nI_ne0 (by omega) (by omega)), bl_or, bl_shr (by omega), show (64 : Int32) = nI 64 from rfl, pk_sub (by omega), bl_shl (by omega) _ hk, nI_1]
    by_cases c : p % 2 ^ 6 + k < 64
    · rw [decide_eq_false (show ¬ 64 - p % 2 ^ 6 ≤ k by omega), Bool.false_and, Bool.or_false, wa_b w (by omega) c]
      congr 1
      omega
    · rw [bl_big (show 64 ≤ p % 2 ^ 6 + k by omega), Bool.false_or, decide_eq_true (show 64 - p % 2 ^ 6 ≤ k by omega), Bool.true_and, wa_b w (by omega) (by omega)]
      congr 1
      omega
theorem tp_bit (w v : Nat → Int64) (a b : Nat) (hab : a ≤ b) (hb : b ≤ 4001) {k : Nat} (hk : k < 4032) : rb (fl (tpW v (nI a) (nI b)) w 63) k = (decide (k < b - a) && rz v (a + k)) := by
  rw [rb_fl _ _ hk]
  obtain ⟨i, q, hi, hq, rfl⟩ := sp64 k hk
  rw [show (64 * i + q) / 64 = i by omega, show (64 * i + q) % 64 = q by omega]
  unfold tpW
  rw [show (nI b - nI a - 64 * nI i) = nI (b - a) - 64 * nI i by rw [pk_sub hab], bl_and, lb64 (b - a) i (by omega) hi hq, show (64 : Int32) = nI 64 from rfl, pk_mul, nI_add, bf_bit v (by omega) hq, Bool.and_comm]
  congr 2
  omega
theorem wd_eq {w v : Nat → Int64} (h : ∀ k, k < 4032 → rb w k = rb v k) : ∀ i, i < 63 → w i = v i := by
  intro i hi
  apply bl_ext
  intro q hq
  have := h (64 * i + q) (by omega)
  rw [rb_at w i hq, rb_at v i hq] at this
  exact this
end
section
/-! walk: the ones in their order, each with its rank -/
def wkf (b : Nat → Bool) (o : Nat) : Nat → Nat × Nat → Nat × Nat
  | 0, q => q
  | m + 1, q => if b m = true then ((wkf b o m q).1 + 1, (wkf b o m q).2 + ((wkf b o m q).1 + 1) * (o + m)) else wkf b o m q
theorem wkf_c {b d : Nat → Bool} (o : Nat) (q : Nat × Nat) : ∀ m, (∀ k, k < m → b k = d k) → wkf b o m q = wkf d o m q := by
  intro m
  induction m with
  | zero => exact fun _ => rfl
  | succ m ih =>
    intro h
    unfold wkf
    rw [ih (fun k hk => h k (by omega)), h m (by omega)]
theorem wkf_a (b : Nat → Bool) (o m : Nat) (q : Nat × Nat) : ∀ k, wkf b o (m + k) q = wkf (fun j => b (m + j)) (o + m) k (wkf b o m q) := by
  intro k
  induction k with
  | zero => rfl
  | succ k ih =>
    show (if b (m + k) = true then ((wkf b o (m + k) q).1 + 1, (wkf b o (m + k) q).2 + ((wkf b o (m + k) q).1 + 1) * (o + (m + k))) else wkf b o (m + k) q) = (if b (m + k) = true then _ else _)
    rw [ih, Nat.add_assoc]
theorem wkf_n {b : Nat → Bool} (o : Nat) (q : Nat × Nat) : ∀ m, (∀ k, k < m → b k = false) → wkf b o m q = q := by
  intro m
  induction m with
  | zero => exact fun _ => rfl
  | succ m ih =>
    intro h
    unfold wkf
    rw [if_neg (by rw [h m (by omega)]; exact Bool.false_ne_true), ih (fun k hk => h k (by omega))]
theorem wkf_1 {b d : Nat → Bool} {r : Nat} (o : Nat) (q : Nat × Nat) (h1 : b r = true) (h2 : ∀ k, k < r → b k = false) (hd : ∀ k, d k = if k = r then false else b k) : ∀ m, r < m → wkf b o m q = wkf d o m (q.1 + 1, q.2 + (q.1 + 1) * (o + r)) := by
  intro m
  induction m with
  | zero => exact fun h => absurd h (by omega)
  | succ m ih =>
    intro h
    by_cases e : m = r
    · subst e
      unfold wkf
      rw [if_pos h1, wkf_n o q m h2, if_neg (by rw [hd m, if_pos rfl]; exact Bool.false_ne_true), wkf_n o _ m (fun k hk => by rw [hd k, if_neg (by omega)]; exact h2 k hk)]
    · unfold wkf
      rw [ih (by omega), show d m = b m by rw [hd m, if_neg e]]
theorem cnt_1 {b d : Nat → Bool} {r : Nat} (h1 : b r = true) (hd : ∀ k, d k = if k = r then false else b k) : ∀ m, r < m → cnt b m = cnt d m + 1 := by
  intro m
  induction m with
  | zero => exact fun h => absurd h (by omega)
  | succ m ih =>
    intro h
    by_cases e : m = r
    · subst e
      show cnt b m + _ = cnt d m + _ + 1
      rw [if_pos h1, if_neg (by rw [hd m, if_pos rfl]; exact Bool.false_ne_true), cnt_c m (fun k hk => show b k = d k by rw [hd k, if_neg (by omega)])]
    · show cnt b m + _ = cnt d m + _ + 1
      rw [ih (by omega), show d m = b m by rw [hd m, if_neg e]]
      omega
theorem cnt_0 {b : Nat → Bool} : ∀ m, cnt b m = 0 → ∀ k, k < m → b k = false := by
  intro m
  induction m with
  | zero => exact fun _ k h => absurd h (by omega)
  | succ m ih =>
    intro h k hk
    have h' : cnt b m + (if b m = true then 1 else 0) = 0 := h
    by_cases e : k = m
    · subst e
      cases hb : b k with
      | false => rfl
      | true =>
        rw [if_pos hb] at h'
        omega
    · exact ih (by omega) k (by omega)
theorem rkN_s (i : Nat) (q : Int64 × Int64 × Int64) : ∀ n, rkN i q (n + 1) = rkN i (rk1 i q) n := by
  intro n
  induction n with
  | zero => rfl
  | succ n ih =>
    show rk1 i (rkN i q (n + 1)) = rk1 i (rkN i (rk1 i q) n)
    rw [ih]
theorem rk_in (i : Nat) (hi : i < 63) : ∀ (n : Nat) (x : Int64) (R S : Nat), cnt (bl x) 64 = n → (rkN i (x, lN R, lN S) n).2 = (lN (wkf (bl x) (64 * i) 64 (R, S)).1, lN (wkf (bl x) (64 * i) 64 (R, S)).2) := by
  intro n
  induction n with
  | zero =>
    intro x R S h
    rw [wkf_n _ _ 64 (cnt_0 64 h)]
    rfl
  | succ n ih =>
    intro x R S h
    have hx : ¬ x = 0 := by
      intro e
      rw [cnt_c (d := fun _ => false) 64 (fun k _ => bl_eq0 e k)] at h
      have : cnt (fun _ => false) 64 = 0 := by decide
      omega
    obtain ⟨r, hr, b1, b2, b3, b4⟩ := nt_ok hx
    have e1 : rk1 i (x, lN R, lN S) = (x &&& (x - 1), lN (R + 1), lN (S + (R + 1) * (64 * i + r))) := by
      unfold rk1
      show (x &&& (x - 1), lN R + 1, lN S + (lN R + 1) * (64 * nI i + fJ7_numberOfTrailingZeros x).toInt64) = _
      rw [b3, show (64 : Int32) = nI 64 from rfl, pk_mul, nI_add, nI_l (by omega), lN_1, lN_mul, lN_add]
    rw [rkN_s, e1, ih _ _ _ (by have := cnt_1 b1 b4 64 hr; omega), wkf_1 (64 * i) (R, S) b1 b2 b4 64 hr]
theorem rk_out (w : Nat → Int64) : ∀ i, i ≤ 63 → rkO w i = (lN (wkf (rb w) 0 (64 * i) (0, 0)).1, lN (wkf (rb w) 0 (64 * i) (0, 0)).2) := by
  intro i
  induction i with
  | zero => exact fun _ => rfl
  | succ i ih =>
    intro hi
    show (rkN i (w i, rkO w i) (pcN (w i))).2 = _
    rw [ih (by omega), pcN_cnt, rk_in i (by omega) _ _ _ _ rfl, Nat.mul_succ, wkf_a, Nat.zero_add, wkf_c (b := fun j => rb w (64 * i + j)) (d := bl (w i)) (64 * i) _ 64 (fun k hk => rb_at w i hk)]
theorem rk_eq (w : Nat → Int64) : (rkO w 63).2 = lN (wkf (rb w) 0 4032 (0, 0)).2 := by
  rw [rk_out w 63 (Nat.le_refl _)]
end
section
/-! calls in the law: the class's world and the reference's side by side -/
section GL
variable {p : Program} {l : Launch} {e : Env} {R : Room} {s : State} {m : MethodId} {args : Array Value} {below : List Frame} {meth : Method} {c : Code} {H : Heap} {locs : List Loc} {cells slots : Nat} {Q : State → Prop}
variable {pc : Nat} {ls : Array Slot} {rest st0 : List Value} {y : MethodName} {bytes cc : ByteArray} {maxL nL n index : Nat} {ret : Option FieldType} {ws Ts : List Cond} {rm : Room} {own C : String} {b : Addr} {As : List Value}
variable {σ : Type} {D : va_G} {cl : List vw_C} {tys : List (ClassId × FieldType)} {w : σ → va_W} {aX : Nat → Nat → Prop} {u : σ} {w2 : va_W} {X Y : Nat → Prop} {H0 : Heap}
theorem gLi {post : Int32 → σ → Prop} (S : CallFix p m c cc nL s args Ts own) (hM : gMi l y ws rm D cl tys w aX (.ref b :: As) u post) (cw : CallW R s args own C index y bytes maxL ret ws rm 0 0 n)
    (hrc : ∃ cellB : Cell, H[b]? = some cellB ∧ cellB.vm.isStatics = false ∧ s.vm.findClass C = some cellB.cls) (hself : ∀ {X : Nat → Prop} {sz : Nat} {v : σ}, va_D X (w v) → va_D (aX sz) (w v))
    (hP : va_P D cl (w u) H) (hP2 : va_P D cl w2 H) (hK : va_K D cl tys s) (hD : va_D Y (w u)) (hS : va_S X H0 H locs) (hin : ∀ q, aX H.size q → X q) (hout : ∀ (k : Nat) (q : Nat × va_E), w2[k]? = some q → ¬ aX H.size q.1) (hn : As.length = n) (hsz : ls.size = nL) (hst : st0 = As.reverse ++ .ref b :: rest) (hrm : (rest.map fun v => v.category).sum ≤ 8) (hdg : decode cc pc = .ok (.invokevirtual index, 3)) (hf : cells + 0 ≤ R.cells ∧ slots + 0 ≤ R.slots)
    (kk : ∀ (r : Int32) (v : σ) (H1 : Heap) (locs1 : List Loc), post r v → va_P D cl (w v) H1 → va_D (aX H.size) (w v) → va_P D cl w2 H1 → H.size ≤ H1.size → va_S X H0 H1 locs1 → W p l e R s m args below meth c H1 locs1 cells slots Q (F0 m (pc + 3) ls (.int r :: rest))) : W p l e R s m args below meth c H locs cells slots Q (F0 m pc ls st0) := by
  refine va_calli (va_runV S (hM H.size) cw ⟨gP_blind, hrc, fun U hU hW => ⟨rfl, by rw [hU], by rw [hU]; exact hP, va_K.moved hW.alike hK, hself hD⟩⟩ rfl hn hsz hst (lv_room hrm) hdg hf) hS (fun q _ h => hin q h) hin (fun r v t H1 locs1 ht hvm hp hB hz hk hS1 => ?_)
  obtain ⟨hP1, -, hD1⟩ := hB
  rw [ht] at hP1
  exact kk r v H1 locs1 hp hP1 hD1 (hP2.kept (fun k q hq => hk q.1 (hP2 k q hq).lt (hout k q hq))) hz hS1
theorem gLl {post : Int64 → σ → Prop} (S : CallFix p m c cc nL s args Ts own) (hM : gMl l y ws rm D cl tys w aX (.ref b :: As) u post) (cw : CallW R s args own C index y bytes maxL ret ws rm 0 0 n)
    (hrc : ∃ cellB : Cell, H[b]? = some cellB ∧ cellB.vm.isStatics = false ∧ s.vm.findClass C = some cellB.cls) (hself : ∀ {X : Nat → Prop} {sz : Nat} {v : σ}, va_D X (w v) → va_D (aX sz) (w v))
    (hP : va_P D cl (w u) H) (hP2 : va_P D cl w2 H) (hK : va_K D cl tys s) (hD : va_D Y (w u)) (hS : va_S X H0 H locs) (hin : ∀ q, aX H.size q → X q) (hout : ∀ (k : Nat) (q : Nat × va_E), w2[k]? = some q → ¬ aX H.size q.1) (hn : As.length = n) (hsz : ls.size = nL) (hst : st0 = As.reverse ++ .ref b :: rest) (hrm : (rest.map fun v => v.category).sum ≤ 8) (hdg : decode cc pc = .ok (.invokevirtual index, 3)) (hf : cells + 0 ≤ R.cells ∧ slots + 0 ≤ R.slots)
    (kk : ∀ (r : Int64) (v : σ) (H1 : Heap) (locs1 : List Loc), post r v → va_P D cl (w v) H1 → va_D (aX H.size) (w v) → va_P D cl w2 H1 → H.size ≤ H1.size → va_S X H0 H1 locs1 → W p l e R s m args below meth c H1 locs1 cells slots Q (F0 m (pc + 3) ls (.long r :: rest))) : W p l e R s m args below meth c H locs cells slots Q (F0 m pc ls st0) := by
  refine va_calll (va_runV S (hM H.size) cw ⟨gP_blind, hrc, fun U hU hW => ⟨rfl, by rw [hU], by rw [hU]; exact hP, va_K.moved hW.alike hK, hself hD⟩⟩ rfl hn hsz hst (lv_room hrm) hdg hf) hS (fun q _ h => hin q h) hin (fun r v t H1 locs1 ht hvm hp hB hz hk hS1 => ?_)
  obtain ⟨hP1, -, hD1⟩ := hB
  rw [ht] at hP1
  exact kk r v H1 locs1 hp hP1 hD1 (hP2.kept (fun k q hq => hk q.1 (hP2 k q hq).lt (hout k q hq))) hz hS1
end GL
end
section
/-! one bit, and the text -/
theorem nI_1b (n : Nat) : nI n &&& 1 = nI (n % 2) := by
  rw [pk_and (nI n) 1 (by decide)]
  have e : (nI n).toBitVec.toNat = n % 2 ^ 32 := BitVec.toNat_ofNat _ _
  rw [e]
  congr 1
  omega
def b01 (b : Bool) : Int32 := if b = true then 1 else 0
theorem bt_eq (w : Nat → Int64) {n : Nat} (hn : n < 4032) : fX0_bit w (nI n) = b01 (rb w n) := by
  have e6 : nI n >>> ((6 : Int32) &&& 31) = nI (n / 2 ^ 6) := pk_shrN (by omega) _ 6 (by decide)
  have em : nI n &&& 63 = nI (n % 2 ^ 6) := pk_andN (by omega) 6 (by decide)
  unfold fX0_bit rb b01
  rw [e6, em, wa_n w (by omega), if_pos (show n / 2 ^ 6 < 63 by omega), show n / 2 ^ 6 = n / 64 from rfl, show n % 2 ^ 6 = n % 64 from rfl]
  obtain ⟨m, hm, e⟩ := wb_of (w (n / 64))
  rw [e, wb_shr hm (by omega), lN_i, nI_1b, bl_lt hm, Nat.testBit_eq_decide_div_mod_eq]
  by_cases h : m / 2 ^ (n % 64) % 2 = 1
  · rw [decide_eq_true h, if_pos rfl, h]
    rfl
  · rw [decide_eq_false h, if_neg Bool.false_ne_true, show m / 2 ^ (n % 64) % 2 = 0 by omega]
    rfl
theorem b01_1 (b : Bool) : b01 b = 1 ↔ b = true := by
  cases b <;> decide
def dgl (n : Nat) : List Int32 := (if n < 100 then [] else [nI (48 + n / 100)]) ++ (if n < 10 then [] else [nI (48 + n / 10 % 10)]) ++ [nI (48 + n % 10)]
def wtL (b : Nat → Bool) : Nat → List Int32
  | 0 => [123]
  | n + 1 => if b n = true then (if (wtL b n).length ≤ 1 then wtL b n else wtL b n ++ [44, 32]) ++ dgl n else wtL b n
def wtT (b : Nat → Bool) : List Int32 := wtL b 128 ++ [125]
/-- how many signs the first n places can need -/
def tlen (n : Nat) : Nat := 1 + (if n ≤ 10 then n else if n ≤ 100 then 2 * n - 10 else 3 * n - 110) + 2 * (n - 1)
theorem dgl_len {n : Nat} (h : n < 128) : (dgl n).length = if n < 10 then 1 else if n < 100 then 2 else 3 := by
  unfold dgl
  rw [List.length_append, List.length_append]
  by_cases h1 : n < 10
  · rw [if_pos (show n < 100 by omega), if_pos h1, if_pos h1]
    rfl
  · rw [if_neg h1, if_neg h1]
    by_cases h2 : n < 100
    · rw [if_pos h2, if_pos h2]
      rfl
    · rw [if_neg h2, if_neg h2]
      rfl
theorem tl_s : ∀ n, n < 128 → tlen n + (if n < 10 then 1 else if n < 100 then 2 else 3) + (if 1 ≤ n then 2 else 0) ≤ tlen (n + 1) := by decide +kernel
theorem wt_len (b : Nat → Bool) : ∀ n, n ≤ 128 → 1 ≤ (wtL b n).length ∧ ((wtL b n).length = 1 ∨ 1 ≤ n) ∧ (wtL b n).length ≤ tlen n := by
  intro n
  induction n with
  | zero => exact fun _ => ⟨Nat.le_refl 1, Or.inl rfl, Nat.le_refl 1⟩
  | succ n ih =>
    intro hn
    obtain ⟨h1, h2, h3⟩ := ih (by omega)
    unfold wtL
    have hd := dgl_len (show n < 128 by omega)
    have hs := tl_s n (by omega)
    by_cases hb : b n = true
    · rw [if_pos hb]
      by_cases hl : (wtL b n).length ≤ 1
      · rw [if_pos hl, List.length_append, hd]
        refine ⟨by omega, Or.inr (by omega), ?_⟩
        omega
      · rw [if_neg hl, List.length_append, List.length_append, hd]
        have h1n : 1 ≤ n := by omega
        rw [if_pos h1n] at hs
        refine ⟨by omega, Or.inr (by omega), ?_⟩
        show (wtL b n).length + 2 + _ ≤ _
        omega
    · rw [if_neg hb]
      exact ⟨h1, Or.inr (by omega), by omega⟩
theorem adT_n {t : List Int32} (c : Int32) (h : t.length < 530) : adT t c = t ++ [c] := if_pos h
theorem ch_d : ∀ q, q < 10 → vp_nar .char ((48 + nI q).toUInt32 % 65536).toInt32 = nI (48 + q) := by decide +kernel
theorem dgT_n {t : List Int32} {q : Nat} (hq : q < 10) (h : t.length < 530) : dgT t (nI q) = t ++ [nI (48 + q)] := by
  unfold dgT
  rw [ch_d q hq, adT_n _ h]
theorem c44 : vp_nar .char 44 = 44 ∧ vp_nar .char 32 = 32 ∧ vp_nar .char 123 = 123 ∧ vp_nar .char 125 = 125 := by decide +kernel
theorem apT_n {t : List Int32} {n : Nat} (hn : n < 128) (h : t.length ≤ 524) : apT (nI n) t = (if t.length ≤ 1 then t else t ++ [44, 32]) ++ dgl n := by
  have e1 : ap1 t = if t.length ≤ 1 then t else t ++ [44, 32] := by
    unfold ap1
    by_cases h1 : t.length ≤ 1
    · rw [if_pos h1, if_pos (show nI t.length ≤ 1 from nI_le (b := 1) h1 (by decide))]
    · rw [if_neg h1, if_neg (show ¬ nI t.length ≤ 1 from nI_ge (a := 1) (by omega) (by omega)), adT_n _ (show t.length < 530 by omega), adT_n _ (by rw [List.length_append]; show t.length + 1 < 530; omega), c44.1, c44.2.1, List.append_assoc]
      rfl
  have l1 : (ap1 t).length ≤ t.length + 2 := by
    rw [e1]
    by_cases h1 : t.length ≤ 1
    · rw [if_pos h1]
      omega
    · rw [if_neg h1, List.length_append]
      exact Nat.le_refl _
  unfold apT
  rw [← e1]
  generalize ap1 t = t1 at l1 ⊢
  have e100 : nI n / 100 = nI (n / 100) := pk_div (d := 100) (by omega) (by decide) (by decide)
  have e10 : nI n / 10 = nI (n / 10) := pk_div (d := 10) (by omega) (by decide) (by decide)
  have er : nI n - nI n / 10 * 10 = nI (n % 10) := pk_rem (d := 10) (by omega) (by decide) (by decide)
  have er2 : nI (n / 10) - nI (n / 10) / 10 * 10 = nI (n / 10 % 10) := pk_rem (d := 10) (by omega) (by decide) (by decide)
  have e2 : ap2 (nI n) t1 = t1 ++ (if n < 100 then [] else [nI (48 + n / 100)]) := by
    unfold ap2
    by_cases h1 : n < 100
    · rw [if_pos h1, if_pos (show nI n < 100 from nI_lt (b := 100) h1 (by decide)), List.append_nil]
    · rw [if_neg h1, if_neg (show ¬ nI n < 100 from nI_nlt (b := 100) (by omega) (by omega)), e100, dgT_n (by omega) (by omega)]
  have l2 : (ap2 (nI n) t1).length ≤ t1.length + 1 := by
    rw [e2, List.length_append]
    split
    · show t1.length + 0 ≤ _
      omega
    · exact Nat.le_refl _
  unfold dgl
  rw [er, List.append_assoc, ← List.append_assoc t1, ← e2]
  generalize ap2 (nI n) t1 = t2 at l2 ⊢
  have e3 : ap3 (nI n) t2 = t2 ++ (if n < 10 then [] else [nI (48 + n / 10 % 10)]) := by
    unfold ap3
    by_cases h1 : n < 10
    · rw [if_pos h1, if_pos (show nI n < 10 from nI_lt (b := 10) h1 (by decide)), List.append_nil]
    · rw [if_neg h1, if_neg (show ¬ nI n < 10 from nI_nlt (b := 10) (by omega) (by omega)), e10, er2, dgT_n (by omega) (by omega)]
  have l3 : (ap3 (nI n) t2).length ≤ t2.length + 1 := by
    rw [e3, List.length_append]
    split
    · show t2.length + 0 ≤ _
      omega
    · exact Nat.le_refl _
  rw [← List.append_assoc, ← e3]
  exact dgT_n (by omega) (by omega)
theorem wr_eq (w : Nat → Int64) : ∀ n, n ≤ 128 → wrL w n = wtL (rb w) n := by
  intro n
  induction n with
  | zero =>
    intro _
    show adT [] _ = _
    rw [adT_n _ (by decide), c44.2.2.1]
    rfl
  | succ n ih =>
    intro hn
    unfold wrL wtL
    rw [ih (by omega), bt_eq w (by omega)]
    by_cases h : rb w n = true
    · rw [if_pos h, if_pos ((b01_1 _).mpr h)]
      refine apT_n (by omega) ?_
      have := (wt_len (rb w) n (by omega)).2.2
      unfold tlen at this
      split at this <;> (try split at this) <;> omega
    · rw [if_neg h, if_neg (fun k => h ((b01_1 _).mp k))]
theorem wrT_eq (w : Nat → Int64) : wrT w = wtT (rb w) := by
  unfold wrT wtT
  have := (wt_len (rb w) 128 (by omega)).2.2
  rw [wr_eq w 128 (by omega), adT_n _ (by unfold tlen at this; simp at this; omega), c44.2.2.2]
end
section
theorem dX3_init_0 : decode cX3_init 0 = .ok (.aload_n 0, 1) := by decide +kernel
theorem dX3_init_1 : decode cX3_init 1 = .ok (.invokespecial 1, 3) := by decide +kernel
theorem dX3_init_4 : decode cX3_init 4 = .ok (.aload_n 0, 1) := by decide +kernel
theorem dX3_init_5 : decode cX3_init 5 = .ok (.iconst 4, 1) := by decide +kernel
theorem dX3_init_6 : decode cX3_init 6 = .ok (.sipush 4032, 3) := by decide +kernel
theorem dX3_init_9 : decode cX3_init 9 = .ok (.multianewarray 9 2, 4) := by decide +kernel
theorem dX3_init_13 : decode cX3_init 13 = .ok (.putfield 11, 3) := by decide +kernel
theorem dX3_init_16 : decode cX3_init 16 = .ok (.aload_n 0, 1) := by decide +kernel
theorem dX3_init_17 : decode cX3_init 17 = .ok (.sipush 4032, 3) := by decide +kernel
theorem dX3_init_20 : decode cX3_init 20 = .ok (.newarray .boolean, 2) := by decide +kernel
theorem dX3_init_22 : decode cX3_init 22 = .ok (.putfield 14, 3) := by decide +kernel
theorem dX3_init_25 : decode cX3_init 25 = .ok (.aload_n 0, 1) := by decide +kernel
theorem dX3_init_26 : decode cX3_init 26 = .ok (.sipush 700, 3) := by decide +kernel
theorem dX3_init_29 : decode cX3_init 29 = .ok (.newarray .byte, 2) := by decide +kernel
theorem dX3_init_31 : decode cX3_init 31 = .ok (.putfield 18, 3) := by decide +kernel
theorem dX3_init_34 : decode cX3_init 34 = .ok (.return_, 1) := by decide +kernel
theorem dX3_set_0 : decode cX3_set 0 = .ok (.iload_n 1, 1) := by decide +kernel
theorem dX3_set_1 : decode cX3_set 1 = .ok (.invokestatic 22, 3) := by decide +kernel
theorem dX3_set_4 : decode cX3_set 4 = .ok (.ifCond .eq 19, 3) := by decide +kernel
theorem dX3_set_7 : decode cX3_set 7 = .ok (.iload_n 2, 1) := by decide +kernel
theorem dX3_set_8 : decode cX3_set 8 = .ok (.ifCond .lt 15, 3) := by decide +kernel
theorem dX3_set_11 : decode cX3_set 11 = .ok (.iload_n 2, 1) := by decide +kernel
theorem dX3_set_12 : decode cX3_set 12 = .ok (.iconst 2, 1) := by decide +kernel
theorem dX3_set_13 : decode cX3_set 13 = .ok (.if_icmp .gt 10, 3) := by decide +kernel
theorem dX3_set_16 : decode cX3_set 16 = .ok (.iload_n 3, 1) := by decide +kernel
theorem dX3_set_17 : decode cX3_set 17 = .ok (.invokestatic 26, 3) := by decide +kernel
theorem dX3_set_20 : decode cX3_set 20 = .ok (.ifCond .ne 6, 3) := by decide +kernel
theorem dX3_set_23 : decode cX3_set 23 = .ok (.bipush (-2), 2) := by decide +kernel
theorem dX3_set_25 : decode cX3_set 25 = .ok (.ireturn, 1) := by decide +kernel
theorem dX3_set_26 : decode cX3_set 26 = .ok (.aload_n 0, 1) := by decide +kernel
theorem dX3_set_27 : decode cX3_set 27 = .ok (.getfield 11, 3) := by decide +kernel
theorem dX3_set_30 : decode cX3_set 30 = .ok (.iload_n 1, 1) := by decide +kernel
theorem dX3_set_31 : decode cX3_set 31 = .ok (.aaload, 1) := by decide +kernel
theorem dX3_set_32 : decode cX3_set 32 = .ok (.iload_n 3, 1) := by decide +kernel
theorem dX3_set_33 : decode cX3_set 33 = .ok (.baload, 1) := by decide +kernel
theorem dX3_set_34 : decode cX3_set 34 = .ok (.istore 4, 2) := by decide +kernel
theorem dX3_set_36 : decode cX3_set 36 = .ok (.aload_n 0, 1) := by decide +kernel
theorem dX3_set_37 : decode cX3_set 37 = .ok (.getfield 11, 3) := by decide +kernel
theorem dX3_set_40 : decode cX3_set 40 = .ok (.iload_n 1, 1) := by decide +kernel
theorem dX3_set_41 : decode cX3_set 41 = .ok (.aaload, 1) := by decide +kernel
theorem dX3_set_42 : decode cX3_set 42 = .ok (.iload_n 3, 1) := by decide +kernel
theorem dX3_set_43 : decode cX3_set 43 = .ok (.iload 4, 2) := by decide +kernel
theorem dX3_set_45 : decode cX3_set 45 = .ok (.iload_n 2, 1) := by decide +kernel
theorem dX3_set_46 : decode cX3_set 46 = .ok (.invokestatic 29, 3) := by decide +kernel
theorem dX3_set_49 : decode cX3_set 49 = .ok (.bastore, 1) := by decide +kernel
theorem dX3_set_50 : decode cX3_set 50 = .ok (.iload 4, 2) := by decide +kernel
theorem dX3_set_52 : decode cX3_set 52 = .ok (.ifCond .eq 7, 3) := by decide +kernel
theorem dX3_set_55 : decode cX3_set 55 = .ok (.iconst 1, 1) := by decide +kernel
theorem dX3_set_56 : decode cX3_set 56 = .ok (.goto 4, 3) := by decide +kernel
theorem dX3_set_59 : decode cX3_set 59 = .ok (.iconst 0, 1) := by decide +kernel
theorem dX3_set_60 : decode cX3_set 60 = .ok (.ireturn, 1) := by decide +kernel
theorem dX3_isRow_0 : decode cX3_isRow 0 = .ok (.iload_n 0, 1) := by decide +kernel
theorem dX3_isRow_1 : decode cX3_isRow 1 = .ok (.ifCond .lt 12, 3) := by decide +kernel
theorem dX3_isRow_4 : decode cX3_isRow 4 = .ok (.iload_n 0, 1) := by decide +kernel
theorem dX3_isRow_5 : decode cX3_isRow 5 = .ok (.iconst 4, 1) := by decide +kernel
theorem dX3_isRow_6 : decode cX3_isRow 6 = .ok (.if_icmp .ge 7, 3) := by decide +kernel
theorem dX3_isRow_9 : decode cX3_isRow 9 = .ok (.iconst 1, 1) := by decide +kernel
theorem dX3_isRow_10 : decode cX3_isRow 10 = .ok (.goto 4, 3) := by decide +kernel
theorem dX3_isRow_13 : decode cX3_isRow 13 = .ok (.iconst 0, 1) := by decide +kernel
theorem dX3_isRow_14 : decode cX3_isRow 14 = .ok (.ireturn, 1) := by decide +kernel
theorem dX3_isPlace_0 : decode cX3_isPlace 0 = .ok (.iload_n 0, 1) := by decide +kernel
theorem dX3_isPlace_1 : decode cX3_isPlace 1 = .ok (.ifCond .lt 14, 3) := by decide +kernel
theorem dX3_isPlace_4 : decode cX3_isPlace 4 = .ok (.iload_n 0, 1) := by decide +kernel
theorem dX3_isPlace_5 : decode cX3_isPlace 5 = .ok (.sipush 4000, 3) := by decide +kernel
theorem dX3_isPlace_8 : decode cX3_isPlace 8 = .ok (.if_icmp .gt 7, 3) := by decide +kernel
theorem dX3_isPlace_11 : decode cX3_isPlace 11 = .ok (.iconst 1, 1) := by decide +kernel
theorem dX3_isPlace_12 : decode cX3_isPlace 12 = .ok (.goto 4, 3) := by decide +kernel
theorem dX3_isPlace_15 : decode cX3_isPlace 15 = .ok (.iconst 0, 1) := by decide +kernel
theorem dX3_isPlace_16 : decode cX3_isPlace 16 = .ok (.ireturn, 1) := by decide +kernel
theorem dX3_changed_0 : decode cX3_changed 0 = .ok (.iload_n 1, 1) := by decide +kernel
theorem dX3_changed_1 : decode cX3_changed 1 = .ok (.iconst 1, 1) := by decide +kernel
theorem dX3_changed_2 : decode cX3_changed 2 = .ok (.if_icmp .eq 12, 3) := by decide +kernel
theorem dX3_changed_5 : decode cX3_changed 5 = .ok (.iload_n 1, 1) := by decide +kernel
theorem dX3_changed_6 : decode cX3_changed 6 = .ok (.iconst 2, 1) := by decide +kernel
theorem dX3_changed_7 : decode cX3_changed 7 = .ok (.if_icmp .ne 11, 3) := by decide +kernel
theorem dX3_changed_10 : decode cX3_changed 10 = .ok (.iload_n 0, 1) := by decide +kernel
theorem dX3_changed_11 : decode cX3_changed 11 = .ok (.ifCond .ne 7, 3) := by decide +kernel
theorem dX3_changed_14 : decode cX3_changed 14 = .ok (.iconst 1, 1) := by decide +kernel
theorem dX3_changed_15 : decode cX3_changed 15 = .ok (.goto 4, 3) := by decide +kernel
theorem dX3_changed_18 : decode cX3_changed 18 = .ok (.iconst 0, 1) := by decide +kernel
theorem dX3_changed_19 : decode cX3_changed 19 = .ok (.ireturn, 1) := by decide +kernel
theorem dX3_piece_0 : decode cX3_piece 0 = .ok (.iload_n 1, 1) := by decide +kernel
theorem dX3_piece_1 : decode cX3_piece 1 = .ok (.invokestatic 22, 3) := by decide +kernel
theorem dX3_piece_4 : decode cX3_piece 4 = .ok (.ifCond .eq 21, 3) := by decide +kernel
theorem dX3_piece_7 : decode cX3_piece 7 = .ok (.iload_n 2, 1) := by decide +kernel
theorem dX3_piece_8 : decode cX3_piece 8 = .ok (.ifCond .lt 17, 3) := by decide +kernel
theorem dX3_piece_11 : decode cX3_piece 11 = .ok (.iload_n 2, 1) := by decide +kernel
theorem dX3_piece_12 : decode cX3_piece 12 = .ok (.iconst 2, 1) := by decide +kernel
theorem dX3_piece_13 : decode cX3_piece 13 = .ok (.if_icmp .gt 12, 3) := by decide +kernel
theorem dX3_piece_16 : decode cX3_piece 16 = .ok (.iload_n 3, 1) := by decide +kernel
theorem dX3_piece_17 : decode cX3_piece 17 = .ok (.iload 4, 2) := by decide +kernel
theorem dX3_piece_19 : decode cX3_piece 19 = .ok (.invokestatic 33, 3) := by decide +kernel
theorem dX3_piece_22 : decode cX3_piece 22 = .ok (.ifCond .ne 6, 3) := by decide +kernel
theorem dX3_piece_25 : decode cX3_piece 25 = .ok (.bipush (-2), 2) := by decide +kernel
theorem dX3_piece_27 : decode cX3_piece 27 = .ok (.ireturn, 1) := by decide +kernel
theorem dX3_piece_28 : decode cX3_piece 28 = .ok (.iload_n 3, 1) := by decide +kernel
theorem dX3_piece_29 : decode cX3_piece 29 = .ok (.istore 5, 2) := by decide +kernel
theorem dX3_piece_31 : decode cX3_piece 31 = .ok (.iload 5, 2) := by decide +kernel
theorem dX3_piece_33 : decode cX3_piece 33 = .ok (.iload 4, 2) := by decide +kernel
theorem dX3_piece_35 : decode cX3_piece 35 = .ok (.if_icmp .ge 31, 3) := by decide +kernel
theorem dX3_piece_38 : decode cX3_piece 38 = .ok (.aload_n 0, 1) := by decide +kernel
theorem dX3_piece_39 : decode cX3_piece 39 = .ok (.getfield 11, 3) := by decide +kernel
theorem dX3_piece_42 : decode cX3_piece 42 = .ok (.iload_n 1, 1) := by decide +kernel
theorem dX3_piece_43 : decode cX3_piece 43 = .ok (.aaload, 1) := by decide +kernel
theorem dX3_piece_44 : decode cX3_piece 44 = .ok (.iload 5, 2) := by decide +kernel
theorem dX3_piece_46 : decode cX3_piece 46 = .ok (.aload_n 0, 1) := by decide +kernel
theorem dX3_piece_47 : decode cX3_piece 47 = .ok (.getfield 11, 3) := by decide +kernel
theorem dX3_piece_50 : decode cX3_piece 50 = .ok (.iload_n 1, 1) := by decide +kernel
theorem dX3_piece_51 : decode cX3_piece 51 = .ok (.aaload, 1) := by decide +kernel
theorem dX3_piece_52 : decode cX3_piece 52 = .ok (.iload 5, 2) := by decide +kernel
theorem dX3_piece_54 : decode cX3_piece 54 = .ok (.baload, 1) := by decide +kernel
theorem dX3_piece_55 : decode cX3_piece 55 = .ok (.iload_n 2, 1) := by decide +kernel
theorem dX3_piece_56 : decode cX3_piece 56 = .ok (.invokestatic 29, 3) := by decide +kernel
theorem dX3_piece_59 : decode cX3_piece 59 = .ok (.bastore, 1) := by decide +kernel
theorem dX3_piece_60 : decode cX3_piece 60 = .ok (.iinc 5 1, 3) := by decide +kernel
theorem dX3_piece_63 : decode cX3_piece 63 = .ok (.goto (-32), 3) := by decide +kernel
theorem dX3_piece_66 : decode cX3_piece 66 = .ok (.aload_n 0, 1) := by decide +kernel
theorem dX3_piece_67 : decode cX3_piece 67 = .ok (.iload_n 1, 1) := by decide +kernel
theorem dX3_piece_68 : decode cX3_piece 68 = .ok (.invokevirtual 37, 3) := by decide +kernel
theorem dX3_piece_71 : decode cX3_piece 71 = .ok (.ireturn, 1) := by decide +kernel
theorem dX3_isPiece_0 : decode cX3_isPiece 0 = .ok (.iload_n 0, 1) := by decide +kernel
theorem dX3_isPiece_1 : decode cX3_isPiece 1 = .ok (.ifCond .lt 19, 3) := by decide +kernel
theorem dX3_isPiece_4 : decode cX3_isPiece 4 = .ok (.iload_n 0, 1) := by decide +kernel
theorem dX3_isPiece_5 : decode cX3_isPiece 5 = .ok (.iload_n 1, 1) := by decide +kernel
theorem dX3_isPiece_6 : decode cX3_isPiece 6 = .ok (.if_icmp .gt 14, 3) := by decide +kernel
theorem dX3_isPiece_9 : decode cX3_isPiece 9 = .ok (.iload_n 1, 1) := by decide +kernel
theorem dX3_isPiece_10 : decode cX3_isPiece 10 = .ok (.sipush 4001, 3) := by decide +kernel
theorem dX3_isPiece_13 : decode cX3_isPiece 13 = .ok (.if_icmp .gt 7, 3) := by decide +kernel
theorem dX3_isPiece_16 : decode cX3_isPiece 16 = .ok (.iconst 1, 1) := by decide +kernel
theorem dX3_isPiece_17 : decode cX3_isPiece 17 = .ok (.goto 4, 3) := by decide +kernel
theorem dX3_isPiece_20 : decode cX3_isPiece 20 = .ok (.iconst 0, 1) := by decide +kernel
theorem dX3_isPiece_21 : decode cX3_isPiece 21 = .ok (.ireturn, 1) := by decide +kernel
theorem dX3_ones_0 : decode cX3_ones 0 = .ok (.iconst 0, 1) := by decide +kernel
theorem dX3_ones_1 : decode cX3_ones 1 = .ok (.istore_n 2, 1) := by decide +kernel
theorem dX3_ones_2 : decode cX3_ones 2 = .ok (.iconst 0, 1) := by decide +kernel
theorem dX3_ones_3 : decode cX3_ones 3 = .ok (.istore_n 3, 1) := by decide +kernel
theorem dX3_ones_4 : decode cX3_ones 4 = .ok (.iload_n 3, 1) := by decide +kernel
theorem dX3_ones_5 : decode cX3_ones 5 = .ok (.sipush 4032, 3) := by decide +kernel
theorem dX3_ones_8 : decode cX3_ones 8 = .ok (.if_icmp .ge 28, 3) := by decide +kernel
theorem dX3_ones_11 : decode cX3_ones 11 = .ok (.iload_n 2, 1) := by decide +kernel
theorem dX3_ones_12 : decode cX3_ones 12 = .ok (.aload_n 0, 1) := by decide +kernel
theorem dX3_ones_13 : decode cX3_ones 13 = .ok (.getfield 11, 3) := by decide +kernel
theorem dX3_ones_16 : decode cX3_ones 16 = .ok (.iload_n 1, 1) := by decide +kernel
theorem dX3_ones_17 : decode cX3_ones 17 = .ok (.aaload, 1) := by decide +kernel
theorem dX3_ones_18 : decode cX3_ones 18 = .ok (.iload_n 3, 1) := by decide +kernel
theorem dX3_ones_19 : decode cX3_ones 19 = .ok (.baload, 1) := by decide +kernel
theorem dX3_ones_20 : decode cX3_ones 20 = .ok (.ifCond .eq 7, 3) := by decide +kernel
theorem dX3_ones_23 : decode cX3_ones 23 = .ok (.iconst 1, 1) := by decide +kernel
theorem dX3_ones_24 : decode cX3_ones 24 = .ok (.goto 4, 3) := by decide +kernel
theorem dX3_ones_27 : decode cX3_ones 27 = .ok (.iconst 0, 1) := by decide +kernel
theorem dX3_ones_28 : decode cX3_ones 28 = .ok (.iadd, 1) := by decide +kernel
theorem dX3_ones_29 : decode cX3_ones 29 = .ok (.istore_n 2, 1) := by decide +kernel
theorem dX3_ones_30 : decode cX3_ones 30 = .ok (.iinc 3 1, 3) := by decide +kernel
theorem dX3_ones_33 : decode cX3_ones 33 = .ok (.goto (-29), 3) := by decide +kernel
theorem dX3_ones_36 : decode cX3_ones 36 = .ok (.iload_n 2, 1) := by decide +kernel
theorem dX3_ones_37 : decode cX3_ones 37 = .ok (.ireturn, 1) := by decide +kernel
theorem dX3_get_0 : decode cX3_get 0 = .ok (.iload_n 1, 1) := by decide +kernel
theorem dX3_get_1 : decode cX3_get 1 = .ok (.invokestatic 22, 3) := by decide +kernel
theorem dX3_get_4 : decode cX3_get 4 = .ok (.ifCond .eq 10, 3) := by decide +kernel
theorem dX3_get_7 : decode cX3_get 7 = .ok (.iload_n 2, 1) := by decide +kernel
theorem dX3_get_8 : decode cX3_get 8 = .ok (.invokestatic 26, 3) := by decide +kernel
theorem dX3_get_11 : decode cX3_get 11 = .ok (.ifCond .ne 8, 3) := by decide +kernel
theorem dX3_get_14 : decode cX3_get 14 = .ok (.bipush (-2), 2) := by decide +kernel
theorem dX3_get_16 : decode cX3_get 16 = .ok (.goto 19, 3) := by decide +kernel
theorem dX3_get_19 : decode cX3_get 19 = .ok (.aload_n 0, 1) := by decide +kernel
theorem dX3_get_20 : decode cX3_get 20 = .ok (.getfield 11, 3) := by decide +kernel
theorem dX3_get_23 : decode cX3_get 23 = .ok (.iload_n 1, 1) := by decide +kernel
theorem dX3_get_24 : decode cX3_get 24 = .ok (.aaload, 1) := by decide +kernel
theorem dX3_get_25 : decode cX3_get 25 = .ok (.iload_n 2, 1) := by decide +kernel
theorem dX3_get_26 : decode cX3_get 26 = .ok (.baload, 1) := by decide +kernel
theorem dX3_get_27 : decode cX3_get 27 = .ok (.ifCond .eq 7, 3) := by decide +kernel
theorem dX3_get_30 : decode cX3_get 30 = .ok (.iconst 1, 1) := by decide +kernel
theorem dX3_get_31 : decode cX3_get 31 = .ok (.goto 4, 3) := by decide +kernel
theorem dX3_get_34 : decode cX3_get 34 = .ok (.iconst 0, 1) := by decide +kernel
theorem dX3_get_35 : decode cX3_get 35 = .ok (.ireturn, 1) := by decide +kernel
theorem dX3_next_0 : decode cX3_next 0 = .ok (.iload_n 1, 1) := by decide +kernel
theorem dX3_next_1 : decode cX3_next 1 = .ok (.invokestatic 22, 3) := by decide +kernel
theorem dX3_next_4 : decode cX3_next 4 = .ok (.ifCond .eq 19, 3) := by decide +kernel
theorem dX3_next_7 : decode cX3_next 7 = .ok (.iload_n 2, 1) := by decide +kernel
theorem dX3_next_8 : decode cX3_next 8 = .ok (.ifCond .lt 15, 3) := by decide +kernel
theorem dX3_next_11 : decode cX3_next 11 = .ok (.iload_n 2, 1) := by decide +kernel
theorem dX3_next_12 : decode cX3_next 12 = .ok (.iconst 3, 1) := by decide +kernel
theorem dX3_next_13 : decode cX3_next 13 = .ok (.if_icmp .gt 10, 3) := by decide +kernel
theorem dX3_next_16 : decode cX3_next 16 = .ok (.iload_n 3, 1) := by decide +kernel
theorem dX3_next_17 : decode cX3_next 17 = .ok (.invokestatic 26, 3) := by decide +kernel
theorem dX3_next_20 : decode cX3_next 20 = .ok (.ifCond .ne 6, 3) := by decide +kernel
theorem dX3_next_23 : decode cX3_next 23 = .ok (.bipush (-2), 2) := by decide +kernel
theorem dX3_next_25 : decode cX3_next 25 = .ok (.ireturn, 1) := by decide +kernel
theorem dX3_next_26 : decode cX3_next 26 = .ok (.iload_n 2, 1) := by decide +kernel
theorem dX3_next_27 : decode cX3_next 27 = .ok (.iconst 2, 1) := by decide +kernel
theorem dX3_next_28 : decode cX3_next 28 = .ok (.irem, 1) := by decide +kernel
theorem dX3_next_29 : decode cX3_next 29 = .ok (.ifCond .ne 7, 3) := by decide +kernel
theorem dX3_next_32 : decode cX3_next 32 = .ok (.iconst 1, 1) := by decide +kernel
theorem dX3_next_33 : decode cX3_next 33 = .ok (.goto 4, 3) := by decide +kernel
theorem dX3_next_36 : decode cX3_next 36 = .ok (.iconst 0, 1) := by decide +kernel
theorem dX3_next_37 : decode cX3_next 37 = .ok (.istore 4, 2) := by decide +kernel
theorem dX3_next_39 : decode cX3_next 39 = .ok (.iload_n 2, 1) := by decide +kernel
theorem dX3_next_40 : decode cX3_next 40 = .ok (.iconst 2, 1) := by decide +kernel
theorem dX3_next_41 : decode cX3_next 41 = .ok (.if_icmp .ge 60, 3) := by decide +kernel
theorem dX3_next_44 : decode cX3_next 44 = .ok (.iload_n 3, 1) := by decide +kernel
theorem dX3_next_45 : decode cX3_next 45 = .ok (.istore 5, 2) := by decide +kernel
theorem dX3_next_47 : decode cX3_next 47 = .ok (.iload 5, 2) := by decide +kernel
theorem dX3_next_49 : decode cX3_next 49 = .ok (.sipush 4032, 3) := by decide +kernel
theorem dX3_next_52 : decode cX3_next 52 = .ok (.if_icmp .ge 23, 3) := by decide +kernel
theorem dX3_next_55 : decode cX3_next 55 = .ok (.aload_n 0, 1) := by decide +kernel
theorem dX3_next_56 : decode cX3_next 56 = .ok (.getfield 11, 3) := by decide +kernel
theorem dX3_next_59 : decode cX3_next 59 = .ok (.iload_n 1, 1) := by decide +kernel
theorem dX3_next_60 : decode cX3_next 60 = .ok (.aaload, 1) := by decide +kernel
theorem dX3_next_61 : decode cX3_next 61 = .ok (.iload 5, 2) := by decide +kernel
theorem dX3_next_63 : decode cX3_next 63 = .ok (.baload, 1) := by decide +kernel
theorem dX3_next_64 : decode cX3_next 64 = .ok (.iload 4, 2) := by decide +kernel
theorem dX3_next_66 : decode cX3_next 66 = .ok (.if_icmp .eq 9, 3) := by decide +kernel
theorem dX3_next_69 : decode cX3_next 69 = .ok (.iinc 5 1, 3) := by decide +kernel
theorem dX3_next_72 : decode cX3_next 72 = .ok (.goto (-25), 3) := by decide +kernel
theorem dX3_next_75 : decode cX3_next 75 = .ok (.iload 5, 2) := by decide +kernel
theorem dX3_next_77 : decode cX3_next 77 = .ok (.sipush 4032, 3) := by decide +kernel
theorem dX3_next_80 : decode cX3_next 80 = .ok (.if_icmp .ge 8, 3) := by decide +kernel
theorem dX3_next_83 : decode cX3_next 83 = .ok (.iload 5, 2) := by decide +kernel
theorem dX3_next_85 : decode cX3_next 85 = .ok (.goto 15, 3) := by decide +kernel
theorem dX3_next_88 : decode cX3_next 88 = .ok (.iload 4, 2) := by decide +kernel
theorem dX3_next_90 : decode cX3_next 90 = .ok (.ifCond .eq 7, 3) := by decide +kernel
theorem dX3_next_93 : decode cX3_next 93 = .ok (.iconst (-1), 1) := by decide +kernel
theorem dX3_next_94 : decode cX3_next 94 = .ok (.goto 6, 3) := by decide +kernel
theorem dX3_next_97 : decode cX3_next 97 = .ok (.sipush 4032, 3) := by decide +kernel
theorem dX3_next_100 : decode cX3_next 100 = .ok (.ireturn, 1) := by decide +kernel
theorem dX3_next_101 : decode cX3_next 101 = .ok (.iload_n 3, 1) := by decide +kernel
theorem dX3_next_102 : decode cX3_next 102 = .ok (.istore 5, 2) := by decide +kernel
theorem dX3_next_104 : decode cX3_next 104 = .ok (.iload 5, 2) := by decide +kernel
theorem dX3_next_106 : decode cX3_next 106 = .ok (.ifCond .lt 23, 3) := by decide +kernel
theorem dX3_next_109 : decode cX3_next 109 = .ok (.aload_n 0, 1) := by decide +kernel
theorem dX3_next_110 : decode cX3_next 110 = .ok (.getfield 11, 3) := by decide +kernel
theorem dX3_next_113 : decode cX3_next 113 = .ok (.iload_n 1, 1) := by decide +kernel
theorem dX3_next_114 : decode cX3_next 114 = .ok (.aaload, 1) := by decide +kernel
theorem dX3_next_115 : decode cX3_next 115 = .ok (.iload 5, 2) := by decide +kernel
theorem dX3_next_117 : decode cX3_next 117 = .ok (.baload, 1) := by decide +kernel
theorem dX3_next_118 : decode cX3_next 118 = .ok (.iload 4, 2) := by decide +kernel
theorem dX3_next_120 : decode cX3_next 120 = .ok (.if_icmp .eq 9, 3) := by decide +kernel
theorem dX3_next_123 : decode cX3_next 123 = .ok (.iinc 5 (-1), 3) := by decide +kernel
theorem dX3_next_126 : decode cX3_next 126 = .ok (.goto (-22), 3) := by decide +kernel
theorem dX3_next_129 : decode cX3_next 129 = .ok (.iload 5, 2) := by decide +kernel
theorem dX3_next_131 : decode cX3_next 131 = .ok (.ireturn, 1) := by decide +kernel
theorem dX3_join_0 : decode cX3_join 0 = .ok (.iload_n 1, 1) := by decide +kernel
theorem dX3_join_1 : decode cX3_join 1 = .ok (.invokestatic 22, 3) := by decide +kernel
theorem dX3_join_4 : decode cX3_join 4 = .ok (.ifCond .eq 19, 3) := by decide +kernel
theorem dX3_join_7 : decode cX3_join 7 = .ok (.iload_n 2, 1) := by decide +kernel
theorem dX3_join_8 : decode cX3_join 8 = .ok (.ifCond .lt 15, 3) := by decide +kernel
theorem dX3_join_11 : decode cX3_join 11 = .ok (.iload_n 2, 1) := by decide +kernel
theorem dX3_join_12 : decode cX3_join 12 = .ok (.iconst 3, 1) := by decide +kernel
theorem dX3_join_13 : decode cX3_join 13 = .ok (.if_icmp .gt 10, 3) := by decide +kernel
theorem dX3_join_16 : decode cX3_join 16 = .ok (.iload_n 3, 1) := by decide +kernel
theorem dX3_join_17 : decode cX3_join 17 = .ok (.invokestatic 22, 3) := by decide +kernel
theorem dX3_join_20 : decode cX3_join 20 = .ok (.ifCond .ne 6, 3) := by decide +kernel
theorem dX3_join_23 : decode cX3_join 23 = .ok (.bipush (-2), 2) := by decide +kernel
theorem dX3_join_25 : decode cX3_join 25 = .ok (.ireturn, 1) := by decide +kernel
theorem dX3_join_26 : decode cX3_join 26 = .ok (.iconst 0, 1) := by decide +kernel
theorem dX3_join_27 : decode cX3_join 27 = .ok (.istore 4, 2) := by decide +kernel
theorem dX3_join_29 : decode cX3_join 29 = .ok (.iload 4, 2) := by decide +kernel
theorem dX3_join_31 : decode cX3_join 31 = .ok (.sipush 4032, 3) := by decide +kernel
theorem dX3_join_34 : decode cX3_join 34 = .ok (.if_icmp .ge 120, 3) := by decide +kernel
theorem dX3_join_37 : decode cX3_join 37 = .ok (.aload_n 0, 1) := by decide +kernel
theorem dX3_join_38 : decode cX3_join 38 = .ok (.getfield 11, 3) := by decide +kernel
theorem dX3_join_41 : decode cX3_join 41 = .ok (.iload_n 1, 1) := by decide +kernel
theorem dX3_join_42 : decode cX3_join 42 = .ok (.aaload, 1) := by decide +kernel
theorem dX3_join_43 : decode cX3_join 43 = .ok (.iload 4, 2) := by decide +kernel
theorem dX3_join_45 : decode cX3_join 45 = .ok (.baload, 1) := by decide +kernel
theorem dX3_join_46 : decode cX3_join 46 = .ok (.istore 5, 2) := by decide +kernel
theorem dX3_join_48 : decode cX3_join 48 = .ok (.aload_n 0, 1) := by decide +kernel
theorem dX3_join_49 : decode cX3_join 49 = .ok (.getfield 11, 3) := by decide +kernel
theorem dX3_join_52 : decode cX3_join 52 = .ok (.iload_n 3, 1) := by decide +kernel
theorem dX3_join_53 : decode cX3_join 53 = .ok (.aaload, 1) := by decide +kernel
theorem dX3_join_54 : decode cX3_join 54 = .ok (.iload 4, 2) := by decide +kernel
theorem dX3_join_56 : decode cX3_join 56 = .ok (.baload, 1) := by decide +kernel
theorem dX3_join_57 : decode cX3_join 57 = .ok (.istore 6, 2) := by decide +kernel
theorem dX3_join_59 : decode cX3_join 59 = .ok (.aload_n 0, 1) := by decide +kernel
theorem dX3_join_60 : decode cX3_join 60 = .ok (.getfield 11, 3) := by decide +kernel
theorem dX3_join_63 : decode cX3_join 63 = .ok (.iload_n 1, 1) := by decide +kernel
theorem dX3_join_64 : decode cX3_join 64 = .ok (.aaload, 1) := by decide +kernel
theorem dX3_join_65 : decode cX3_join 65 = .ok (.iload 4, 2) := by decide +kernel
theorem dX3_join_67 : decode cX3_join 67 = .ok (.iload_n 2, 1) := by decide +kernel
theorem dX3_join_68 : decode cX3_join 68 = .ok (.ifCond .ne 21, 3) := by decide +kernel
theorem dX3_join_71 : decode cX3_join 71 = .ok (.iload 5, 2) := by decide +kernel
theorem dX3_join_73 : decode cX3_join 73 = .ok (.ifCond .eq 12, 3) := by decide +kernel
theorem dX3_join_76 : decode cX3_join 76 = .ok (.iload 6, 2) := by decide +kernel
theorem dX3_join_78 : decode cX3_join 78 = .ok (.ifCond .eq 7, 3) := by decide +kernel
theorem dX3_join_81 : decode cX3_join 81 = .ok (.iconst 1, 1) := by decide +kernel
theorem dX3_join_82 : decode cX3_join 82 = .ok (.goto 65, 3) := by decide +kernel
theorem dX3_join_85 : decode cX3_join 85 = .ok (.iconst 0, 1) := by decide +kernel
theorem dX3_join_86 : decode cX3_join 86 = .ok (.goto 61, 3) := by decide +kernel
theorem dX3_join_89 : decode cX3_join 89 = .ok (.iload_n 2, 1) := by decide +kernel
theorem dX3_join_90 : decode cX3_join 90 = .ok (.iconst 1, 1) := by decide +kernel
theorem dX3_join_91 : decode cX3_join 91 = .ok (.if_icmp .ne 21, 3) := by decide +kernel
theorem dX3_join_94 : decode cX3_join 94 = .ok (.iload 5, 2) := by decide +kernel
theorem dX3_join_96 : decode cX3_join 96 = .ok (.ifCond .ne 8, 3) := by decide +kernel
theorem dX3_join_99 : decode cX3_join 99 = .ok (.iload 6, 2) := by decide +kernel
theorem dX3_join_101 : decode cX3_join 101 = .ok (.ifCond .eq 7, 3) := by decide +kernel
theorem dX3_join_104 : decode cX3_join 104 = .ok (.iconst 1, 1) := by decide +kernel
theorem dX3_join_105 : decode cX3_join 105 = .ok (.goto 42, 3) := by decide +kernel
theorem dX3_join_108 : decode cX3_join 108 = .ok (.iconst 0, 1) := by decide +kernel
theorem dX3_join_109 : decode cX3_join 109 = .ok (.goto 38, 3) := by decide +kernel
theorem dX3_join_112 : decode cX3_join 112 = .ok (.iload_n 2, 1) := by decide +kernel
theorem dX3_join_113 : decode cX3_join 113 = .ok (.iconst 2, 1) := by decide +kernel
theorem dX3_join_114 : decode cX3_join 114 = .ok (.if_icmp .ne 18, 3) := by decide +kernel
theorem dX3_join_117 : decode cX3_join 117 = .ok (.iload 5, 2) := by decide +kernel
theorem dX3_join_119 : decode cX3_join 119 = .ok (.iload 6, 2) := by decide +kernel
theorem dX3_join_121 : decode cX3_join 121 = .ok (.if_icmp .eq 7, 3) := by decide +kernel
theorem dX3_join_124 : decode cX3_join 124 = .ok (.iconst 1, 1) := by decide +kernel
theorem dX3_join_125 : decode cX3_join 125 = .ok (.goto 22, 3) := by decide +kernel
theorem dX3_join_128 : decode cX3_join 128 = .ok (.iconst 0, 1) := by decide +kernel
theorem dX3_join_129 : decode cX3_join 129 = .ok (.goto 18, 3) := by decide +kernel
theorem dX3_join_132 : decode cX3_join 132 = .ok (.iload 5, 2) := by decide +kernel
theorem dX3_join_134 : decode cX3_join 134 = .ok (.ifCond .eq 12, 3) := by decide +kernel
theorem dX3_join_137 : decode cX3_join 137 = .ok (.iload 6, 2) := by decide +kernel
theorem dX3_join_139 : decode cX3_join 139 = .ok (.ifCond .ne 7, 3) := by decide +kernel
theorem dX3_join_142 : decode cX3_join 142 = .ok (.iconst 1, 1) := by decide +kernel
theorem dX3_join_143 : decode cX3_join 143 = .ok (.goto 4, 3) := by decide +kernel
theorem dX3_join_146 : decode cX3_join 146 = .ok (.iconst 0, 1) := by decide +kernel
theorem dX3_join_147 : decode cX3_join 147 = .ok (.bastore, 1) := by decide +kernel
theorem dX3_join_148 : decode cX3_join 148 = .ok (.iinc 4 1, 3) := by decide +kernel
theorem dX3_join_151 : decode cX3_join 151 = .ok (.goto (-122), 3) := by decide +kernel
theorem dX3_join_154 : decode cX3_join 154 = .ok (.aload_n 0, 1) := by decide +kernel
theorem dX3_join_155 : decode cX3_join 155 = .ok (.iload_n 1, 1) := by decide +kernel
theorem dX3_join_156 : decode cX3_join 156 = .ok (.invokevirtual 37, 3) := by decide +kernel
theorem dX3_join_159 : decode cX3_join 159 = .ok (.ireturn, 1) := by decide +kernel
theorem dX3_cut_0 : decode cX3_cut 0 = .ok (.iload_n 1, 1) := by decide +kernel
theorem dX3_cut_1 : decode cX3_cut 1 = .ok (.invokestatic 22, 3) := by decide +kernel
theorem dX3_cut_4 : decode cX3_cut 4 = .ok (.ifCond .eq 19, 3) := by decide +kernel
theorem dX3_cut_7 : decode cX3_cut 7 = .ok (.iload_n 2, 1) := by decide +kernel
theorem dX3_cut_8 : decode cX3_cut 8 = .ok (.invokestatic 22, 3) := by decide +kernel
theorem dX3_cut_11 : decode cX3_cut 11 = .ok (.ifCond .eq 12, 3) := by decide +kernel
theorem dX3_cut_14 : decode cX3_cut 14 = .ok (.iload_n 3, 1) := by decide +kernel
theorem dX3_cut_15 : decode cX3_cut 15 = .ok (.iload 4, 2) := by decide +kernel
theorem dX3_cut_17 : decode cX3_cut 17 = .ok (.invokestatic 33, 3) := by decide +kernel
theorem dX3_cut_20 : decode cX3_cut 20 = .ok (.ifCond .ne 6, 3) := by decide +kernel
theorem dX3_cut_23 : decode cX3_cut 23 = .ok (.bipush (-2), 2) := by decide +kernel
theorem dX3_cut_25 : decode cX3_cut 25 = .ok (.ireturn, 1) := by decide +kernel
theorem dX3_cut_26 : decode cX3_cut 26 = .ok (.iconst 0, 1) := by decide +kernel
theorem dX3_cut_27 : decode cX3_cut 27 = .ok (.istore 5, 2) := by decide +kernel
theorem dX3_cut_29 : decode cX3_cut 29 = .ok (.iload 5, 2) := by decide +kernel
theorem dX3_cut_31 : decode cX3_cut 31 = .ok (.sipush 4032, 3) := by decide +kernel
theorem dX3_cut_34 : decode cX3_cut 34 = .ok (.if_icmp .ge 44, 3) := by decide +kernel
theorem dX3_cut_37 : decode cX3_cut 37 = .ok (.aload_n 0, 1) := by decide +kernel
theorem dX3_cut_38 : decode cX3_cut 38 = .ok (.getfield 14, 3) := by decide +kernel
theorem dX3_cut_41 : decode cX3_cut 41 = .ok (.iload 5, 2) := by decide +kernel
theorem dX3_cut_43 : decode cX3_cut 43 = .ok (.iload 5, 2) := by decide +kernel
theorem dX3_cut_45 : decode cX3_cut 45 = .ok (.iload 4, 2) := by decide +kernel
theorem dX3_cut_47 : decode cX3_cut 47 = .ok (.iload_n 3, 1) := by decide +kernel
theorem dX3_cut_48 : decode cX3_cut 48 = .ok (.isub, 1) := by decide +kernel
theorem dX3_cut_49 : decode cX3_cut 49 = .ok (.if_icmp .ge 21, 3) := by decide +kernel
theorem dX3_cut_52 : decode cX3_cut 52 = .ok (.aload_n 0, 1) := by decide +kernel
theorem dX3_cut_53 : decode cX3_cut 53 = .ok (.getfield 11, 3) := by decide +kernel
theorem dX3_cut_56 : decode cX3_cut 56 = .ok (.iload_n 2, 1) := by decide +kernel
theorem dX3_cut_57 : decode cX3_cut 57 = .ok (.aaload, 1) := by decide +kernel
theorem dX3_cut_58 : decode cX3_cut 58 = .ok (.iload_n 3, 1) := by decide +kernel
theorem dX3_cut_59 : decode cX3_cut 59 = .ok (.iload 5, 2) := by decide +kernel
theorem dX3_cut_61 : decode cX3_cut 61 = .ok (.iadd, 1) := by decide +kernel
theorem dX3_cut_62 : decode cX3_cut 62 = .ok (.baload, 1) := by decide +kernel
theorem dX3_cut_63 : decode cX3_cut 63 = .ok (.ifCond .eq 7, 3) := by decide +kernel
theorem dX3_cut_66 : decode cX3_cut 66 = .ok (.iconst 1, 1) := by decide +kernel
theorem dX3_cut_67 : decode cX3_cut 67 = .ok (.goto 4, 3) := by decide +kernel
theorem dX3_cut_70 : decode cX3_cut 70 = .ok (.iconst 0, 1) := by decide +kernel
theorem dX3_cut_71 : decode cX3_cut 71 = .ok (.bastore, 1) := by decide +kernel
theorem dX3_cut_72 : decode cX3_cut 72 = .ok (.iinc 5 1, 3) := by decide +kernel
theorem dX3_cut_75 : decode cX3_cut 75 = .ok (.goto (-46), 3) := by decide +kernel
theorem dX3_cut_78 : decode cX3_cut 78 = .ok (.iconst 0, 1) := by decide +kernel
theorem dX3_cut_79 : decode cX3_cut 79 = .ok (.istore 5, 2) := by decide +kernel
theorem dX3_cut_81 : decode cX3_cut 81 = .ok (.iload 5, 2) := by decide +kernel
theorem dX3_cut_83 : decode cX3_cut 83 = .ok (.sipush 4032, 3) := by decide +kernel
theorem dX3_cut_86 : decode cX3_cut 86 = .ok (.if_icmp .ge 25, 3) := by decide +kernel
theorem dX3_cut_89 : decode cX3_cut 89 = .ok (.aload_n 0, 1) := by decide +kernel
theorem dX3_cut_90 : decode cX3_cut 90 = .ok (.getfield 11, 3) := by decide +kernel
theorem dX3_cut_93 : decode cX3_cut 93 = .ok (.iload_n 1, 1) := by decide +kernel
theorem dX3_cut_94 : decode cX3_cut 94 = .ok (.aaload, 1) := by decide +kernel
theorem dX3_cut_95 : decode cX3_cut 95 = .ok (.iload 5, 2) := by decide +kernel
theorem dX3_cut_97 : decode cX3_cut 97 = .ok (.aload_n 0, 1) := by decide +kernel
theorem dX3_cut_98 : decode cX3_cut 98 = .ok (.getfield 14, 3) := by decide +kernel
theorem dX3_cut_101 : decode cX3_cut 101 = .ok (.iload 5, 2) := by decide +kernel
theorem dX3_cut_103 : decode cX3_cut 103 = .ok (.baload, 1) := by decide +kernel
theorem dX3_cut_104 : decode cX3_cut 104 = .ok (.bastore, 1) := by decide +kernel
theorem dX3_cut_105 : decode cX3_cut 105 = .ok (.iinc 5 1, 3) := by decide +kernel
theorem dX3_cut_108 : decode cX3_cut 108 = .ok (.goto (-27), 3) := by decide +kernel
theorem dX3_cut_111 : decode cX3_cut 111 = .ok (.aload_n 0, 1) := by decide +kernel
theorem dX3_cut_112 : decode cX3_cut 112 = .ok (.iload_n 1, 1) := by decide +kernel
theorem dX3_cut_113 : decode cX3_cut 113 = .ok (.invokevirtual 37, 3) := by decide +kernel
theorem dX3_cut_116 : decode cX3_cut 116 = .ok (.ireturn, 1) := by decide +kernel
theorem dX3_copy_0 : decode cX3_copy 0 = .ok (.iload_n 1, 1) := by decide +kernel
theorem dX3_copy_1 : decode cX3_copy 1 = .ok (.invokestatic 22, 3) := by decide +kernel
theorem dX3_copy_4 : decode cX3_copy 4 = .ok (.ifCond .eq 10, 3) := by decide +kernel
theorem dX3_copy_7 : decode cX3_copy 7 = .ok (.iload_n 2, 1) := by decide +kernel
theorem dX3_copy_8 : decode cX3_copy 8 = .ok (.invokestatic 22, 3) := by decide +kernel
theorem dX3_copy_11 : decode cX3_copy 11 = .ok (.ifCond .ne 6, 3) := by decide +kernel
theorem dX3_copy_14 : decode cX3_copy 14 = .ok (.bipush (-2), 2) := by decide +kernel
theorem dX3_copy_16 : decode cX3_copy 16 = .ok (.ireturn, 1) := by decide +kernel
theorem dX3_copy_17 : decode cX3_copy 17 = .ok (.iconst 0, 1) := by decide +kernel
theorem dX3_copy_18 : decode cX3_copy 18 = .ok (.istore_n 3, 1) := by decide +kernel
theorem dX3_copy_19 : decode cX3_copy 19 = .ok (.iload_n 3, 1) := by decide +kernel
theorem dX3_copy_20 : decode cX3_copy 20 = .ok (.sipush 4032, 3) := by decide +kernel
theorem dX3_copy_23 : decode cX3_copy 23 = .ok (.if_icmp .ge 25, 3) := by decide +kernel
theorem dX3_copy_26 : decode cX3_copy 26 = .ok (.aload_n 0, 1) := by decide +kernel
theorem dX3_copy_27 : decode cX3_copy 27 = .ok (.getfield 11, 3) := by decide +kernel
theorem dX3_copy_30 : decode cX3_copy 30 = .ok (.iload_n 1, 1) := by decide +kernel
theorem dX3_copy_31 : decode cX3_copy 31 = .ok (.aaload, 1) := by decide +kernel
theorem dX3_copy_32 : decode cX3_copy 32 = .ok (.iload_n 3, 1) := by decide +kernel
theorem dX3_copy_33 : decode cX3_copy 33 = .ok (.aload_n 0, 1) := by decide +kernel
theorem dX3_copy_34 : decode cX3_copy 34 = .ok (.getfield 11, 3) := by decide +kernel
theorem dX3_copy_37 : decode cX3_copy 37 = .ok (.iload_n 2, 1) := by decide +kernel
theorem dX3_copy_38 : decode cX3_copy 38 = .ok (.aaload, 1) := by decide +kernel
theorem dX3_copy_39 : decode cX3_copy 39 = .ok (.iload_n 3, 1) := by decide +kernel
theorem dX3_copy_40 : decode cX3_copy 40 = .ok (.baload, 1) := by decide +kernel
theorem dX3_copy_41 : decode cX3_copy 41 = .ok (.bastore, 1) := by decide +kernel
theorem dX3_copy_42 : decode cX3_copy 42 = .ok (.iinc 3 1, 3) := by decide +kernel
theorem dX3_copy_45 : decode cX3_copy 45 = .ok (.goto (-26), 3) := by decide +kernel
theorem dX3_copy_48 : decode cX3_copy 48 = .ok (.aload_n 0, 1) := by decide +kernel
theorem dX3_copy_49 : decode cX3_copy 49 = .ok (.iload_n 1, 1) := by decide +kernel
theorem dX3_copy_50 : decode cX3_copy 50 = .ok (.invokevirtual 37, 3) := by decide +kernel
theorem dX3_copy_53 : decode cX3_copy 53 = .ok (.ireturn, 1) := by decide +kernel
theorem dX3_look_0 : decode cX3_look 0 = .ok (.iload_n 1, 1) := by decide +kernel
theorem dX3_look_1 : decode cX3_look 1 = .ok (.invokestatic 22, 3) := by decide +kernel
theorem dX3_look_4 : decode cX3_look 4 = .ok (.ifCond .eq 12, 3) := by decide +kernel
theorem dX3_look_7 : decode cX3_look 7 = .ok (.iload_n 2, 1) := by decide +kernel
theorem dX3_look_8 : decode cX3_look 8 = .ok (.ifCond .lt 8, 3) := by decide +kernel
theorem dX3_look_11 : decode cX3_look 11 = .ok (.iload_n 2, 1) := by decide +kernel
theorem dX3_look_12 : decode cX3_look 12 = .ok (.iconst 2, 1) := by decide +kernel
theorem dX3_look_13 : decode cX3_look 13 = .ok (.if_icmp .le 6, 3) := by decide +kernel
theorem dX3_look_16 : decode cX3_look 16 = .ok (.bipush (-2), 2) := by decide +kernel
theorem dX3_look_18 : decode cX3_look 18 = .ok (.ireturn, 1) := by decide +kernel
theorem dX3_look_19 : decode cX3_look 19 = .ok (.iload_n 2, 1) := by decide +kernel
theorem dX3_look_20 : decode cX3_look 20 = .ok (.ifCond .ne 11, 3) := by decide +kernel
theorem dX3_look_23 : decode cX3_look 23 = .ok (.aload_n 0, 1) := by decide +kernel
theorem dX3_look_24 : decode cX3_look 24 = .ok (.iload_n 1, 1) := by decide +kernel
theorem dX3_look_25 : decode cX3_look 25 = .ok (.invokevirtual 37, 3) := by decide +kernel
theorem dX3_look_28 : decode cX3_look 28 = .ok (.goto 29, 3) := by decide +kernel
theorem dX3_look_31 : decode cX3_look 31 = .ok (.iload_n 2, 1) := by decide +kernel
theorem dX3_look_32 : decode cX3_look 32 = .ok (.iconst 1, 1) := by decide +kernel
theorem dX3_look_33 : decode cX3_look 33 = .ok (.if_icmp .ne 11, 3) := by decide +kernel
theorem dX3_look_36 : decode cX3_look 36 = .ok (.aload_n 0, 1) := by decide +kernel
theorem dX3_look_37 : decode cX3_look 37 = .ok (.iload_n 1, 1) := by decide +kernel
theorem dX3_look_38 : decode cX3_look 38 = .ok (.invokevirtual 41, 3) := by decide +kernel
theorem dX3_look_41 : decode cX3_look 41 = .ok (.goto 16, 3) := by decide +kernel
theorem dX3_look_44 : decode cX3_look 44 = .ok (.aload_n 0, 1) := by decide +kernel
theorem dX3_look_45 : decode cX3_look 45 = .ok (.iload_n 1, 1) := by decide +kernel
theorem dX3_look_46 : decode cX3_look 46 = .ok (.invokevirtual 41, 3) := by decide +kernel
theorem dX3_look_49 : decode cX3_look 49 = .ok (.ifCond .ne 7, 3) := by decide +kernel
theorem dX3_look_52 : decode cX3_look 52 = .ok (.iconst 1, 1) := by decide +kernel
theorem dX3_look_53 : decode cX3_look 53 = .ok (.goto 4, 3) := by decide +kernel
theorem dX3_look_56 : decode cX3_look 56 = .ok (.iconst 0, 1) := by decide +kernel
theorem dX3_look_57 : decode cX3_look 57 = .ok (.ireturn, 1) := by decide +kernel
theorem dX3_end_0 : decode cX3_end 0 = .ok (.sipush 4032, 3) := by decide +kernel
theorem dX3_end_3 : decode cX3_end 3 = .ok (.istore_n 2, 1) := by decide +kernel
theorem dX3_end_4 : decode cX3_end 4 = .ok (.iload_n 2, 1) := by decide +kernel
theorem dX3_end_5 : decode cX3_end 5 = .ok (.ifCond .le 22, 3) := by decide +kernel
theorem dX3_end_8 : decode cX3_end 8 = .ok (.aload_n 0, 1) := by decide +kernel
theorem dX3_end_9 : decode cX3_end 9 = .ok (.getfield 11, 3) := by decide +kernel
theorem dX3_end_12 : decode cX3_end 12 = .ok (.iload_n 1, 1) := by decide +kernel
theorem dX3_end_13 : decode cX3_end 13 = .ok (.aaload, 1) := by decide +kernel
theorem dX3_end_14 : decode cX3_end 14 = .ok (.iload_n 2, 1) := by decide +kernel
theorem dX3_end_15 : decode cX3_end 15 = .ok (.iconst 1, 1) := by decide +kernel
theorem dX3_end_16 : decode cX3_end 16 = .ok (.isub, 1) := by decide +kernel
theorem dX3_end_17 : decode cX3_end 17 = .ok (.baload, 1) := by decide +kernel
theorem dX3_end_18 : decode cX3_end 18 = .ok (.ifCond .ne 9, 3) := by decide +kernel
theorem dX3_end_21 : decode cX3_end 21 = .ok (.iinc 2 (-1), 3) := by decide +kernel
theorem dX3_end_24 : decode cX3_end 24 = .ok (.goto (-20), 3) := by decide +kernel
theorem dX3_end_27 : decode cX3_end 27 = .ok (.iload_n 2, 1) := by decide +kernel
theorem dX3_end_28 : decode cX3_end 28 = .ok (.ireturn, 1) := by decide +kernel
theorem dX3_meet_0 : decode cX3_meet 0 = .ok (.iload_n 1, 1) := by decide +kernel
theorem dX3_meet_1 : decode cX3_meet 1 = .ok (.invokestatic 22, 3) := by decide +kernel
theorem dX3_meet_4 : decode cX3_meet 4 = .ok (.ifCond .eq 19, 3) := by decide +kernel
theorem dX3_meet_7 : decode cX3_meet 7 = .ok (.iload_n 2, 1) := by decide +kernel
theorem dX3_meet_8 : decode cX3_meet 8 = .ok (.ifCond .lt 15, 3) := by decide +kernel
theorem dX3_meet_11 : decode cX3_meet 11 = .ok (.iload_n 2, 1) := by decide +kernel
theorem dX3_meet_12 : decode cX3_meet 12 = .ok (.iconst 1, 1) := by decide +kernel
theorem dX3_meet_13 : decode cX3_meet 13 = .ok (.if_icmp .gt 10, 3) := by decide +kernel
theorem dX3_meet_16 : decode cX3_meet 16 = .ok (.iload_n 3, 1) := by decide +kernel
theorem dX3_meet_17 : decode cX3_meet 17 = .ok (.invokestatic 22, 3) := by decide +kernel
theorem dX3_meet_20 : decode cX3_meet 20 = .ok (.ifCond .ne 6, 3) := by decide +kernel
theorem dX3_meet_23 : decode cX3_meet 23 = .ok (.bipush (-2), 2) := by decide +kernel
theorem dX3_meet_25 : decode cX3_meet 25 = .ok (.ireturn, 1) := by decide +kernel
theorem dX3_meet_26 : decode cX3_meet 26 = .ok (.iconst 0, 1) := by decide +kernel
theorem dX3_meet_27 : decode cX3_meet 27 = .ok (.istore 4, 2) := by decide +kernel
theorem dX3_meet_29 : decode cX3_meet 29 = .ok (.iconst 1, 1) := by decide +kernel
theorem dX3_meet_30 : decode cX3_meet 30 = .ok (.istore 5, 2) := by decide +kernel
theorem dX3_meet_32 : decode cX3_meet 32 = .ok (.iconst 0, 1) := by decide +kernel
theorem dX3_meet_33 : decode cX3_meet 33 = .ok (.istore 6, 2) := by decide +kernel
theorem dX3_meet_35 : decode cX3_meet 35 = .ok (.iload 6, 2) := by decide +kernel
theorem dX3_meet_37 : decode cX3_meet 37 = .ok (.sipush 4032, 3) := by decide +kernel
theorem dX3_meet_40 : decode cX3_meet 40 = .ok (.if_icmp .ge 78, 3) := by decide +kernel
theorem dX3_meet_43 : decode cX3_meet 43 = .ok (.iload 4, 2) := by decide +kernel
theorem dX3_meet_45 : decode cX3_meet 45 = .ok (.ifCond .ne 27, 3) := by decide +kernel
theorem dX3_meet_48 : decode cX3_meet 48 = .ok (.aload_n 0, 1) := by decide +kernel
theorem dX3_meet_49 : decode cX3_meet 49 = .ok (.getfield 11, 3) := by decide +kernel
theorem dX3_meet_52 : decode cX3_meet 52 = .ok (.iload_n 1, 1) := by decide +kernel
theorem dX3_meet_53 : decode cX3_meet 53 = .ok (.aaload, 1) := by decide +kernel
theorem dX3_meet_54 : decode cX3_meet 54 = .ok (.iload 6, 2) := by decide +kernel
theorem dX3_meet_56 : decode cX3_meet 56 = .ok (.baload, 1) := by decide +kernel
theorem dX3_meet_57 : decode cX3_meet 57 = .ok (.ifCond .eq 19, 3) := by decide +kernel
theorem dX3_meet_60 : decode cX3_meet 60 = .ok (.aload_n 0, 1) := by decide +kernel
theorem dX3_meet_61 : decode cX3_meet 61 = .ok (.getfield 11, 3) := by decide +kernel
theorem dX3_meet_64 : decode cX3_meet 64 = .ok (.iload_n 3, 1) := by decide +kernel
theorem dX3_meet_65 : decode cX3_meet 65 = .ok (.aaload, 1) := by decide +kernel
theorem dX3_meet_66 : decode cX3_meet 66 = .ok (.iload 6, 2) := by decide +kernel
theorem dX3_meet_68 : decode cX3_meet 68 = .ok (.baload, 1) := by decide +kernel
theorem dX3_meet_69 : decode cX3_meet 69 = .ok (.ifCond .eq 7, 3) := by decide +kernel
theorem dX3_meet_72 : decode cX3_meet 72 = .ok (.iconst 1, 1) := by decide +kernel
theorem dX3_meet_73 : decode cX3_meet 73 = .ok (.goto 4, 3) := by decide +kernel
theorem dX3_meet_76 : decode cX3_meet 76 = .ok (.iconst 0, 1) := by decide +kernel
theorem dX3_meet_77 : decode cX3_meet 77 = .ok (.istore 4, 2) := by decide +kernel
theorem dX3_meet_79 : decode cX3_meet 79 = .ok (.iload 5, 2) := by decide +kernel
theorem dX3_meet_81 : decode cX3_meet 81 = .ok (.ifCond .eq 28, 3) := by decide +kernel
theorem dX3_meet_84 : decode cX3_meet 84 = .ok (.aload_n 0, 1) := by decide +kernel
theorem dX3_meet_85 : decode cX3_meet 85 = .ok (.getfield 11, 3) := by decide +kernel
theorem dX3_meet_88 : decode cX3_meet 88 = .ok (.iload_n 1, 1) := by decide +kernel
theorem dX3_meet_89 : decode cX3_meet 89 = .ok (.aaload, 1) := by decide +kernel
theorem dX3_meet_90 : decode cX3_meet 90 = .ok (.iload 6, 2) := by decide +kernel
theorem dX3_meet_92 : decode cX3_meet 92 = .ok (.baload, 1) := by decide +kernel
theorem dX3_meet_93 : decode cX3_meet 93 = .ok (.aload_n 0, 1) := by decide +kernel
theorem dX3_meet_94 : decode cX3_meet 94 = .ok (.getfield 11, 3) := by decide +kernel
theorem dX3_meet_97 : decode cX3_meet 97 = .ok (.iload_n 3, 1) := by decide +kernel
theorem dX3_meet_98 : decode cX3_meet 98 = .ok (.aaload, 1) := by decide +kernel
theorem dX3_meet_99 : decode cX3_meet 99 = .ok (.iload 6, 2) := by decide +kernel
theorem dX3_meet_101 : decode cX3_meet 101 = .ok (.baload, 1) := by decide +kernel
theorem dX3_meet_102 : decode cX3_meet 102 = .ok (.if_icmp .ne 7, 3) := by decide +kernel
theorem dX3_meet_105 : decode cX3_meet 105 = .ok (.iconst 1, 1) := by decide +kernel
theorem dX3_meet_106 : decode cX3_meet 106 = .ok (.goto 4, 3) := by decide +kernel
theorem dX3_meet_109 : decode cX3_meet 109 = .ok (.iconst 0, 1) := by decide +kernel
theorem dX3_meet_110 : decode cX3_meet 110 = .ok (.istore 5, 2) := by decide +kernel
theorem dX3_meet_112 : decode cX3_meet 112 = .ok (.iinc 6 1, 3) := by decide +kernel
theorem dX3_meet_115 : decode cX3_meet 115 = .ok (.goto (-80), 3) := by decide +kernel
theorem dX3_meet_118 : decode cX3_meet 118 = .ok (.iload_n 2, 1) := by decide +kernel
theorem dX3_meet_119 : decode cX3_meet 119 = .ok (.ifCond .ne 11, 3) := by decide +kernel
theorem dX3_meet_122 : decode cX3_meet 122 = .ok (.iload 4, 2) := by decide +kernel
theorem dX3_meet_124 : decode cX3_meet 124 = .ok (.ifCond .eq 15, 3) := by decide +kernel
theorem dX3_meet_127 : decode cX3_meet 127 = .ok (.goto 8, 3) := by decide +kernel
theorem dX3_meet_130 : decode cX3_meet 130 = .ok (.iload 5, 2) := by decide +kernel
theorem dX3_meet_132 : decode cX3_meet 132 = .ok (.ifCond .eq 7, 3) := by decide +kernel
theorem dX3_meet_135 : decode cX3_meet 135 = .ok (.iconst 1, 1) := by decide +kernel
theorem dX3_meet_136 : decode cX3_meet 136 = .ok (.goto 4, 3) := by decide +kernel
theorem dX3_meet_139 : decode cX3_meet 139 = .ok (.iconst 0, 1) := by decide +kernel
theorem dX3_meet_140 : decode cX3_meet 140 = .ok (.ireturn, 1) := by decide +kernel
theorem dX3_word_0 : decode cX3_word 0 = .ok (.iload_n 1, 1) := by decide +kernel
theorem dX3_word_1 : decode cX3_word 1 = .ok (.invokestatic 22, 3) := by decide +kernel
theorem dX3_word_4 : decode cX3_word 4 = .ok (.ifCond .eq 13, 3) := by decide +kernel
theorem dX3_word_7 : decode cX3_word 7 = .ok (.iload_n 2, 1) := by decide +kernel
theorem dX3_word_8 : decode cX3_word 8 = .ok (.ifCond .lt 9, 3) := by decide +kernel
theorem dX3_word_11 : decode cX3_word 11 = .ok (.iload_n 2, 1) := by decide +kernel
theorem dX3_word_12 : decode cX3_word 12 = .ok (.bipush 62, 2) := by decide +kernel
theorem dX3_word_14 : decode cX3_word 14 = .ok (.if_icmp .le 7, 3) := by decide +kernel
theorem dX3_word_17 : decode cX3_word 17 = .ok (.ldc2_w 44, 3) := by decide +kernel
theorem dX3_word_20 : decode cX3_word 20 = .ok (.lreturn, 1) := by decide +kernel
theorem dX3_word_21 : decode cX3_word 21 = .ok (.lconst 0, 1) := by decide +kernel
theorem dX3_word_22 : decode cX3_word 22 = .ok (.lstore_n 3, 1) := by decide +kernel
theorem dX3_word_23 : decode cX3_word 23 = .ok (.bipush 63, 2) := by decide +kernel
theorem dX3_word_25 : decode cX3_word 25 = .ok (.istore 5, 2) := by decide +kernel
theorem dX3_word_27 : decode cX3_word 27 = .ok (.iload 5, 2) := by decide +kernel
theorem dX3_word_29 : decode cX3_word 29 = .ok (.ifCond .lt 38, 3) := by decide +kernel
theorem dX3_word_32 : decode cX3_word 32 = .ok (.ldc2_w 46, 3) := by decide +kernel
theorem dX3_word_35 : decode cX3_word 35 = .ok (.lload_n 3, 1) := by decide +kernel
theorem dX3_word_36 : decode cX3_word 36 = .ok (.lmul, 1) := by decide +kernel
theorem dX3_word_37 : decode cX3_word 37 = .ok (.aload_n 0, 1) := by decide +kernel
theorem dX3_word_38 : decode cX3_word 38 = .ok (.getfield 11, 3) := by decide +kernel
theorem dX3_word_41 : decode cX3_word 41 = .ok (.iload_n 1, 1) := by decide +kernel
theorem dX3_word_42 : decode cX3_word 42 = .ok (.aaload, 1) := by decide +kernel
theorem dX3_word_43 : decode cX3_word 43 = .ok (.bipush 64, 2) := by decide +kernel
theorem dX3_word_45 : decode cX3_word 45 = .ok (.iload_n 2, 1) := by decide +kernel
theorem dX3_word_46 : decode cX3_word 46 = .ok (.imul, 1) := by decide +kernel
theorem dX3_word_47 : decode cX3_word 47 = .ok (.iload 5, 2) := by decide +kernel
theorem dX3_word_49 : decode cX3_word 49 = .ok (.iadd, 1) := by decide +kernel
theorem dX3_word_50 : decode cX3_word 50 = .ok (.baload, 1) := by decide +kernel
theorem dX3_word_51 : decode cX3_word 51 = .ok (.ifCond .eq 7, 3) := by decide +kernel
theorem dX3_word_54 : decode cX3_word 54 = .ok (.lconst 1, 1) := by decide +kernel
theorem dX3_word_55 : decode cX3_word 55 = .ok (.goto 4, 3) := by decide +kernel
theorem dX3_word_58 : decode cX3_word 58 = .ok (.lconst 0, 1) := by decide +kernel
theorem dX3_word_59 : decode cX3_word 59 = .ok (.ladd, 1) := by decide +kernel
theorem dX3_word_60 : decode cX3_word 60 = .ok (.lstore_n 3, 1) := by decide +kernel
theorem dX3_word_61 : decode cX3_word 61 = .ok (.iinc 5 (-1), 3) := by decide +kernel
theorem dX3_word_64 : decode cX3_word 64 = .ok (.goto (-37), 3) := by decide +kernel
theorem dX3_word_67 : decode cX3_word 67 = .ok (.lload_n 3, 1) := by decide +kernel
theorem dX3_word_68 : decode cX3_word 68 = .ok (.lreturn, 1) := by decide +kernel
theorem dX3_load_0 : decode cX3_load 0 = .ok (.iload_n 1, 1) := by decide +kernel
theorem dX3_load_1 : decode cX3_load 1 = .ok (.invokestatic 22, 3) := by decide +kernel
theorem dX3_load_4 : decode cX3_load 4 = .ok (.ifCond .ne 6, 3) := by decide +kernel
theorem dX3_load_7 : decode cX3_load 7 = .ok (.bipush (-2), 2) := by decide +kernel
theorem dX3_load_9 : decode cX3_load 9 = .ok (.ireturn, 1) := by decide +kernel
theorem dX3_load_10 : decode cX3_load 10 = .ok (.iconst 0, 1) := by decide +kernel
theorem dX3_load_11 : decode cX3_load 11 = .ok (.istore 8, 2) := by decide +kernel
theorem dX3_load_13 : decode cX3_load 13 = .ok (.iload 8, 2) := by decide +kernel
theorem dX3_load_15 : decode cX3_load 15 = .ok (.sipush 4032, 3) := by decide +kernel
theorem dX3_load_18 : decode cX3_load 18 = .ok (.if_icmp .ge 70, 3) := by decide +kernel
theorem dX3_load_21 : decode cX3_load 21 = .ok (.aload_n 0, 1) := by decide +kernel
theorem dX3_load_22 : decode cX3_load 22 = .ok (.getfield 11, 3) := by decide +kernel
theorem dX3_load_25 : decode cX3_load 25 = .ok (.iload_n 1, 1) := by decide +kernel
theorem dX3_load_26 : decode cX3_load 26 = .ok (.aaload, 1) := by decide +kernel
theorem dX3_load_27 : decode cX3_load 27 = .ok (.iload 8, 2) := by decide +kernel
theorem dX3_load_29 : decode cX3_load 29 = .ok (.iload 8, 2) := by decide +kernel
theorem dX3_load_31 : decode cX3_load 31 = .ok (.sipush 192, 3) := by decide +kernel
theorem dX3_load_34 : decode cX3_load 34 = .ok (.if_icmp .ge 46, 3) := by decide +kernel
theorem dX3_load_37 : decode cX3_load 37 = .ok (.iload 8, 2) := by decide +kernel
theorem dX3_load_39 : decode cX3_load 39 = .ok (.bipush 64, 2) := by decide +kernel
theorem dX3_load_41 : decode cX3_load 41 = .ok (.if_icmp .ge 7, 3) := by decide +kernel
theorem dX3_load_44 : decode cX3_load 44 = .ok (.lload_n 2, 1) := by decide +kernel
theorem dX3_load_45 : decode cX3_load 45 = .ok (.goto 18, 3) := by decide +kernel
theorem dX3_load_48 : decode cX3_load 48 = .ok (.iload 8, 2) := by decide +kernel
theorem dX3_load_50 : decode cX3_load 50 = .ok (.sipush 128, 3) := by decide +kernel
theorem dX3_load_53 : decode cX3_load 53 = .ok (.if_icmp .ge 8, 3) := by decide +kernel
theorem dX3_load_56 : decode cX3_load 56 = .ok (.lload 4, 2) := by decide +kernel
theorem dX3_load_58 : decode cX3_load 58 = .ok (.goto 5, 3) := by decide +kernel
theorem dX3_load_61 : decode cX3_load 61 = .ok (.lload 6, 2) := by decide +kernel
theorem dX3_load_63 : decode cX3_load 63 = .ok (.iload 8, 2) := by decide +kernel
theorem dX3_load_65 : decode cX3_load 65 = .ok (.bipush 64, 2) := by decide +kernel
theorem dX3_load_67 : decode cX3_load 67 = .ok (.irem, 1) := by decide +kernel
theorem dX3_load_68 : decode cX3_load 68 = .ok (.lshr, 1) := by decide +kernel
theorem dX3_load_69 : decode cX3_load 69 = .ok (.lconst 1, 1) := by decide +kernel
theorem dX3_load_70 : decode cX3_load 70 = .ok (.land, 1) := by decide +kernel
theorem dX3_load_71 : decode cX3_load 71 = .ok (.lconst 1, 1) := by decide +kernel
theorem dX3_load_72 : decode cX3_load 72 = .ok (.lcmp, 1) := by decide +kernel
theorem dX3_load_73 : decode cX3_load 73 = .ok (.ifCond .ne 7, 3) := by decide +kernel
theorem dX3_load_76 : decode cX3_load 76 = .ok (.iconst 1, 1) := by decide +kernel
theorem dX3_load_77 : decode cX3_load 77 = .ok (.goto 4, 3) := by decide +kernel
theorem dX3_load_80 : decode cX3_load 80 = .ok (.iconst 0, 1) := by decide +kernel
theorem dX3_load_81 : decode cX3_load 81 = .ok (.bastore, 1) := by decide +kernel
theorem dX3_load_82 : decode cX3_load 82 = .ok (.iinc 8 1, 3) := by decide +kernel
theorem dX3_load_85 : decode cX3_load 85 = .ok (.goto (-72), 3) := by decide +kernel
theorem dX3_load_88 : decode cX3_load 88 = .ok (.aload_n 0, 1) := by decide +kernel
theorem dX3_load_89 : decode cX3_load 89 = .ok (.iload_n 1, 1) := by decide +kernel
theorem dX3_load_90 : decode cX3_load 90 = .ok (.invokevirtual 37, 3) := by decide +kernel
theorem dX3_load_93 : decode cX3_load 93 = .ok (.ireturn, 1) := by decide +kernel
theorem dX3_walk_0 : decode cX3_walk 0 = .ok (.iload_n 1, 1) := by decide +kernel
theorem dX3_walk_1 : decode cX3_walk 1 = .ok (.invokestatic 22, 3) := by decide +kernel
theorem dX3_walk_4 : decode cX3_walk 4 = .ok (.ifCond .ne 7, 3) := by decide +kernel
theorem dX3_walk_7 : decode cX3_walk 7 = .ok (.ldc2_w 44, 3) := by decide +kernel
theorem dX3_walk_10 : decode cX3_walk 10 = .ok (.lreturn, 1) := by decide +kernel
theorem dX3_walk_11 : decode cX3_walk 11 = .ok (.lconst 0, 1) := by decide +kernel
theorem dX3_walk_12 : decode cX3_walk 12 = .ok (.lstore_n 2, 1) := by decide +kernel
theorem dX3_walk_13 : decode cX3_walk 13 = .ok (.iconst 0, 1) := by decide +kernel
theorem dX3_walk_14 : decode cX3_walk 14 = .ok (.istore 4, 2) := by decide +kernel
theorem dX3_walk_16 : decode cX3_walk 16 = .ok (.iconst 0, 1) := by decide +kernel
theorem dX3_walk_17 : decode cX3_walk 17 = .ok (.istore 5, 2) := by decide +kernel
theorem dX3_walk_19 : decode cX3_walk 19 = .ok (.iload 5, 2) := by decide +kernel
theorem dX3_walk_21 : decode cX3_walk 21 = .ok (.sipush 4032, 3) := by decide +kernel
theorem dX3_walk_24 : decode cX3_walk 24 = .ok (.if_icmp .ge 37, 3) := by decide +kernel
theorem dX3_walk_27 : decode cX3_walk 27 = .ok (.aload_n 0, 1) := by decide +kernel
theorem dX3_walk_28 : decode cX3_walk 28 = .ok (.getfield 11, 3) := by decide +kernel
theorem dX3_walk_31 : decode cX3_walk 31 = .ok (.iload_n 1, 1) := by decide +kernel
theorem dX3_walk_32 : decode cX3_walk 32 = .ok (.aaload, 1) := by decide +kernel
theorem dX3_walk_33 : decode cX3_walk 33 = .ok (.iload 5, 2) := by decide +kernel
theorem dX3_walk_35 : decode cX3_walk 35 = .ok (.baload, 1) := by decide +kernel
theorem dX3_walk_36 : decode cX3_walk 36 = .ok (.ifCond .ne 6, 3) := by decide +kernel
theorem dX3_walk_39 : decode cX3_walk 39 = .ok (.goto 16, 3) := by decide +kernel
theorem dX3_walk_42 : decode cX3_walk 42 = .ok (.iinc 4 1, 3) := by decide +kernel
theorem dX3_walk_45 : decode cX3_walk 45 = .ok (.lload_n 2, 1) := by decide +kernel
theorem dX3_walk_46 : decode cX3_walk 46 = .ok (.iload 5, 2) := by decide +kernel
theorem dX3_walk_48 : decode cX3_walk 48 = .ok (.i2l, 1) := by decide +kernel
theorem dX3_walk_49 : decode cX3_walk 49 = .ok (.iload 4, 2) := by decide +kernel
theorem dX3_walk_51 : decode cX3_walk 51 = .ok (.i2l, 1) := by decide +kernel
theorem dX3_walk_52 : decode cX3_walk 52 = .ok (.lmul, 1) := by decide +kernel
theorem dX3_walk_53 : decode cX3_walk 53 = .ok (.ladd, 1) := by decide +kernel
theorem dX3_walk_54 : decode cX3_walk 54 = .ok (.lstore_n 2, 1) := by decide +kernel
theorem dX3_walk_55 : decode cX3_walk 55 = .ok (.iinc 5 1, 3) := by decide +kernel
theorem dX3_walk_58 : decode cX3_walk 58 = .ok (.goto (-39), 3) := by decide +kernel
theorem dX3_walk_61 : decode cX3_walk 61 = .ok (.lload_n 2, 1) := by decide +kernel
theorem dX3_walk_62 : decode cX3_walk 62 = .ok (.lreturn, 1) := by decide +kernel
theorem dX3_clear_0 : decode cX3_clear 0 = .ok (.iload_n 1, 1) := by decide +kernel
theorem dX3_clear_1 : decode cX3_clear 1 = .ok (.invokestatic 22, 3) := by decide +kernel
theorem dX3_clear_4 : decode cX3_clear 4 = .ok (.ifCond .ne 6, 3) := by decide +kernel
theorem dX3_clear_7 : decode cX3_clear 7 = .ok (.bipush (-2), 2) := by decide +kernel
theorem dX3_clear_9 : decode cX3_clear 9 = .ok (.ireturn, 1) := by decide +kernel
theorem dX3_clear_10 : decode cX3_clear 10 = .ok (.aload_n 0, 1) := by decide +kernel
theorem dX3_clear_11 : decode cX3_clear 11 = .ok (.iload_n 1, 1) := by decide +kernel
theorem dX3_clear_12 : decode cX3_clear 12 = .ok (.invokevirtual 37, 3) := by decide +kernel
theorem dX3_clear_15 : decode cX3_clear 15 = .ok (.istore_n 2, 1) := by decide +kernel
theorem dX3_clear_16 : decode cX3_clear 16 = .ok (.iconst 0, 1) := by decide +kernel
theorem dX3_clear_17 : decode cX3_clear 17 = .ok (.istore_n 3, 1) := by decide +kernel
theorem dX3_clear_18 : decode cX3_clear 18 = .ok (.iload_n 3, 1) := by decide +kernel
theorem dX3_clear_19 : decode cX3_clear 19 = .ok (.sipush 4032, 3) := by decide +kernel
theorem dX3_clear_22 : decode cX3_clear 22 = .ok (.if_icmp .ge 18, 3) := by decide +kernel
theorem dX3_clear_25 : decode cX3_clear 25 = .ok (.aload_n 0, 1) := by decide +kernel
theorem dX3_clear_26 : decode cX3_clear 26 = .ok (.getfield 11, 3) := by decide +kernel
theorem dX3_clear_29 : decode cX3_clear 29 = .ok (.iload_n 1, 1) := by decide +kernel
theorem dX3_clear_30 : decode cX3_clear 30 = .ok (.aaload, 1) := by decide +kernel
theorem dX3_clear_31 : decode cX3_clear 31 = .ok (.iload_n 3, 1) := by decide +kernel
theorem dX3_clear_32 : decode cX3_clear 32 = .ok (.iconst 0, 1) := by decide +kernel
theorem dX3_clear_33 : decode cX3_clear 33 = .ok (.bastore, 1) := by decide +kernel
theorem dX3_clear_34 : decode cX3_clear 34 = .ok (.iinc 3 1, 3) := by decide +kernel
theorem dX3_clear_37 : decode cX3_clear 37 = .ok (.goto (-19), 3) := by decide +kernel
theorem dX3_clear_40 : decode cX3_clear 40 = .ok (.iload_n 2, 1) := by decide +kernel
theorem dX3_clear_41 : decode cX3_clear 41 = .ok (.ireturn, 1) := by decide +kernel
theorem dX3_text_0 : decode cX3_text 0 = .ok (.iload_n 1, 1) := by decide +kernel
theorem dX3_text_1 : decode cX3_text 1 = .ok (.invokestatic 22, 3) := by decide +kernel
theorem dX3_text_4 : decode cX3_text 4 = .ok (.ifCond .eq 14, 3) := by decide +kernel
theorem dX3_text_7 : decode cX3_text 7 = .ok (.aload_n 0, 1) := by decide +kernel
theorem dX3_text_8 : decode cX3_text 8 = .ok (.iload_n 1, 1) := by decide +kernel
theorem dX3_text_9 : decode cX3_text 9 = .ok (.invokevirtual 41, 3) := by decide +kernel
theorem dX3_text_12 : decode cX3_text 12 = .ok (.sipush 128, 3) := by decide +kernel
theorem dX3_text_15 : decode cX3_text 15 = .ok (.if_icmp .le 6, 3) := by decide +kernel
theorem dX3_text_18 : decode cX3_text 18 = .ok (.bipush (-2), 2) := by decide +kernel
theorem dX3_text_20 : decode cX3_text 20 = .ok (.ireturn, 1) := by decide +kernel
theorem dX3_text_21 : decode cX3_text 21 = .ok (.aload_n 0, 1) := by decide +kernel
theorem dX3_text_22 : decode cX3_text 22 = .ok (.iconst 0, 1) := by decide +kernel
theorem dX3_text_23 : decode cX3_text 23 = .ok (.putfield 48, 3) := by decide +kernel
theorem dX3_text_26 : decode cX3_text 26 = .ok (.aload_n 0, 1) := by decide +kernel
theorem dX3_text_27 : decode cX3_text 27 = .ok (.bipush 123, 2) := by decide +kernel
theorem dX3_text_29 : decode cX3_text 29 = .ok (.invokevirtual 52, 3) := by decide +kernel
theorem dX3_text_32 : decode cX3_text 32 = .ok (.iconst 0, 1) := by decide +kernel
theorem dX3_text_33 : decode cX3_text 33 = .ok (.istore_n 2, 1) := by decide +kernel
theorem dX3_text_34 : decode cX3_text 34 = .ok (.iload_n 2, 1) := by decide +kernel
theorem dX3_text_35 : decode cX3_text 35 = .ok (.sipush 4032, 3) := by decide +kernel
theorem dX3_text_38 : decode cX3_text 38 = .ok (.if_icmp .ge 92, 3) := by decide +kernel
theorem dX3_text_41 : decode cX3_text 41 = .ok (.aload_n 0, 1) := by decide +kernel
theorem dX3_text_42 : decode cX3_text 42 = .ok (.getfield 11, 3) := by decide +kernel
theorem dX3_text_45 : decode cX3_text 45 = .ok (.iload_n 1, 1) := by decide +kernel
theorem dX3_text_46 : decode cX3_text 46 = .ok (.aaload, 1) := by decide +kernel
theorem dX3_text_47 : decode cX3_text 47 = .ok (.iload_n 2, 1) := by decide +kernel
theorem dX3_text_48 : decode cX3_text 48 = .ok (.baload, 1) := by decide +kernel
theorem dX3_text_49 : decode cX3_text 49 = .ok (.ifCond .ne 6, 3) := by decide +kernel
theorem dX3_text_52 : decode cX3_text 52 = .ok (.goto 72, 3) := by decide +kernel
theorem dX3_text_55 : decode cX3_text 55 = .ok (.aload_n 0, 1) := by decide +kernel
theorem dX3_text_56 : decode cX3_text 56 = .ok (.getfield 48, 3) := by decide +kernel
theorem dX3_text_59 : decode cX3_text 59 = .ok (.iconst 1, 1) := by decide +kernel
theorem dX3_text_60 : decode cX3_text 60 = .ok (.if_icmp .le 15, 3) := by decide +kernel
theorem dX3_text_63 : decode cX3_text 63 = .ok (.aload_n 0, 1) := by decide +kernel
theorem dX3_text_64 : decode cX3_text 64 = .ok (.bipush 44, 2) := by decide +kernel
theorem dX3_text_66 : decode cX3_text 66 = .ok (.invokevirtual 52, 3) := by decide +kernel
theorem dX3_text_69 : decode cX3_text 69 = .ok (.aload_n 0, 1) := by decide +kernel
theorem dX3_text_70 : decode cX3_text 70 = .ok (.bipush 32, 2) := by decide +kernel
theorem dX3_text_72 : decode cX3_text 72 = .ok (.invokevirtual 52, 3) := by decide +kernel
theorem dX3_text_75 : decode cX3_text 75 = .ok (.iload_n 2, 1) := by decide +kernel
theorem dX3_text_76 : decode cX3_text 76 = .ok (.bipush 99, 2) := by decide +kernel
theorem dX3_text_78 : decode cX3_text 78 = .ok (.if_icmp .le 8, 3) := by decide +kernel
theorem dX3_text_81 : decode cX3_text 81 = .ok (.bipush 100, 2) := by decide +kernel
theorem dX3_text_83 : decode cX3_text 83 = .ok (.goto 15, 3) := by decide +kernel
theorem dX3_text_86 : decode cX3_text 86 = .ok (.iload_n 2, 1) := by decide +kernel
theorem dX3_text_87 : decode cX3_text 87 = .ok (.bipush 9, 2) := by decide +kernel
theorem dX3_text_89 : decode cX3_text 89 = .ok (.if_icmp .le 8, 3) := by decide +kernel
theorem dX3_text_92 : decode cX3_text 92 = .ok (.bipush 10, 2) := by decide +kernel
theorem dX3_text_94 : decode cX3_text 94 = .ok (.goto 4, 3) := by decide +kernel
theorem dX3_text_97 : decode cX3_text 97 = .ok (.iconst 1, 1) := by decide +kernel
theorem dX3_text_98 : decode cX3_text 98 = .ok (.istore_n 3, 1) := by decide +kernel
theorem dX3_text_99 : decode cX3_text 99 = .ok (.iload_n 3, 1) := by decide +kernel
theorem dX3_text_100 : decode cX3_text 100 = .ok (.ifCond .le 24, 3) := by decide +kernel
theorem dX3_text_103 : decode cX3_text 103 = .ok (.aload_n 0, 1) := by decide +kernel
theorem dX3_text_104 : decode cX3_text 104 = .ok (.bipush 48, 2) := by decide +kernel
theorem dX3_text_106 : decode cX3_text 106 = .ok (.iload_n 2, 1) := by decide +kernel
theorem dX3_text_107 : decode cX3_text 107 = .ok (.iload_n 3, 1) := by decide +kernel
theorem dX3_text_108 : decode cX3_text 108 = .ok (.idiv, 1) := by decide +kernel
theorem dX3_text_109 : decode cX3_text 109 = .ok (.bipush 10, 2) := by decide +kernel
theorem dX3_text_111 : decode cX3_text 111 = .ok (.irem, 1) := by decide +kernel
theorem dX3_text_112 : decode cX3_text 112 = .ok (.iadd, 1) := by decide +kernel
theorem dX3_text_113 : decode cX3_text 113 = .ok (.invokevirtual 52, 3) := by decide +kernel
theorem dX3_text_116 : decode cX3_text 116 = .ok (.iload_n 3, 1) := by decide +kernel
theorem dX3_text_117 : decode cX3_text 117 = .ok (.bipush 10, 2) := by decide +kernel
theorem dX3_text_119 : decode cX3_text 119 = .ok (.idiv, 1) := by decide +kernel
theorem dX3_text_120 : decode cX3_text 120 = .ok (.istore_n 3, 1) := by decide +kernel
theorem dX3_text_121 : decode cX3_text 121 = .ok (.goto (-22), 3) := by decide +kernel
theorem dX3_text_124 : decode cX3_text 124 = .ok (.iinc 2 1, 3) := by decide +kernel
theorem dX3_text_127 : decode cX3_text 127 = .ok (.goto (-93), 3) := by decide +kernel
theorem dX3_text_130 : decode cX3_text 130 = .ok (.aload_n 0, 1) := by decide +kernel
theorem dX3_text_131 : decode cX3_text 131 = .ok (.bipush 125, 2) := by decide +kernel
theorem dX3_text_133 : decode cX3_text 133 = .ok (.invokevirtual 52, 3) := by decide +kernel
theorem dX3_text_136 : decode cX3_text 136 = .ok (.aload_n 0, 1) := by decide +kernel
theorem dX3_text_137 : decode cX3_text 137 = .ok (.getfield 48, 3) := by decide +kernel
theorem dX3_text_140 : decode cX3_text 140 = .ok (.ireturn, 1) := by decide +kernel
theorem dX3_write_0 : decode cX3_write 0 = .ok (.aload_n 0, 1) := by decide +kernel
theorem dX3_write_1 : decode cX3_write 1 = .ok (.getfield 18, 3) := by decide +kernel
theorem dX3_write_4 : decode cX3_write 4 = .ok (.aload_n 0, 1) := by decide +kernel
theorem dX3_write_5 : decode cX3_write 5 = .ok (.getfield 48, 3) := by decide +kernel
theorem dX3_write_8 : decode cX3_write 8 = .ok (.iload_n 1, 1) := by decide +kernel
theorem dX3_write_9 : decode cX3_write 9 = .ok (.i2b, 1) := by decide +kernel
theorem dX3_write_10 : decode cX3_write 10 = .ok (.bastore, 1) := by decide +kernel
theorem dX3_write_11 : decode cX3_write 11 = .ok (.aload_n 0, 1) := by decide +kernel
theorem dX3_write_12 : decode cX3_write 12 = .ok (.dup, 1) := by decide +kernel
theorem dX3_write_13 : decode cX3_write 13 = .ok (.getfield 48, 3) := by decide +kernel
theorem dX3_write_16 : decode cX3_write 16 = .ok (.iconst 1, 1) := by decide +kernel
theorem dX3_write_17 : decode cX3_write 17 = .ok (.iadd, 1) := by decide +kernel
theorem dX3_write_18 : decode cX3_write 18 = .ok (.putfield 48, 3) := by decide +kernel
theorem dX3_write_21 : decode cX3_write 21 = .ok (.return_, 1) := by decide +kernel
theorem dX3_octet_0 : decode cX3_octet 0 = .ok (.iload_n 1, 1) := by decide +kernel
theorem dX3_octet_1 : decode cX3_octet 1 = .ok (.ifCond .lt 11, 3) := by decide +kernel
theorem dX3_octet_4 : decode cX3_octet 4 = .ok (.iload_n 1, 1) := by decide +kernel
theorem dX3_octet_5 : decode cX3_octet 5 = .ok (.aload_n 0, 1) := by decide +kernel
theorem dX3_octet_6 : decode cX3_octet 6 = .ok (.getfield 48, 3) := by decide +kernel
theorem dX3_octet_9 : decode cX3_octet 9 = .ok (.if_icmp .lt 8, 3) := by decide +kernel
theorem dX3_octet_12 : decode cX3_octet 12 = .ok (.bipush (-2), 2) := by decide +kernel
theorem dX3_octet_14 : decode cX3_octet 14 = .ok (.goto 9, 3) := by decide +kernel
theorem dX3_octet_17 : decode cX3_octet 17 = .ok (.aload_n 0, 1) := by decide +kernel
theorem dX3_octet_18 : decode cX3_octet 18 = .ok (.getfield 18, 3) := by decide +kernel
theorem dX3_octet_21 : decode cX3_octet 21 = .ok (.iload_n 1, 1) := by decide +kernel
theorem dX3_octet_22 : decode cX3_octet 22 = .ok (.baload, 1) := by decide +kernel
theorem dX3_octet_23 : decode cX3_octet 23 = .ok (.ireturn, 1) := by decide +kernel
end
section
def fX3_isRow (p0 : Int32) : Int32 := if p0 < 0 then (0) else (if 4 ≤ p0 then (0) else (1))
set_option maxHeartbeats 4000000 in
set_option maxRecDepth 100000 in
theorem c_X3_isRow (l : Launch) (p0 : Int32) : Met l yX3_isRow wX3_isRow ({ frames := 0, cells := 0, slots := 0, locals := 0 }) (fun a _ => a = ([.int p0] : List Value).toArray) (vp_Si (fun r => r = fX3_isRow p0)) 0 0 (fun _ => False) := by
  refine Met.ofW (cc := cX3_isRow) (maxL := 1) (ret := (some .boolean)) (by decide) rfl ?_
  intro p e s m args below meth c s₁ B hml hv
  obtain rfl := hv
  have hx := B.exec
  have hb := B.bytes
  have hr := B.returns
  have hts := atoms_spec (ws := wX3_isRow) B.pre
  have hw : ∀ w ∈ tg_, w.before _ s = true := fun w h => hts w (List.mem_cons_of_mem _ h)
  have hown : s.vm.findClass RX3 = some m.cls := findClass_of_methodNamed B.named
  have hlocks := B.notSynchronized
  have hl := lv_entry ([.int p0]) (n := 1) (Nat.le_of_ble_eq_true rfl)
  rw [lg_entry_eq]
  generalize (lg_sl ([.int p0]) ++ List.replicate (1 - (lg_sl ([.int p0])).length) Slot.unset).toArray = ls at hl ⊢
  have hl : lv_has ls 1 [(0, .int p0)] := hl
  refine lv_iload_n hx hb dX3_isRow_0 rfl (lv_at hl 0 rfl) ?_
  refine lv_if_lt (tgt := 13) hx hb dX3_isRow_1 (by decide) (fun c1 => ?_) (fun c1 => ?_)
  · refine lv_iconst (v := 0) hx hb dX3_isRow_13 (by decide) ?_
    exact W.zret hx hb hr (rfl) (fun t ht hW => ⟨_, rfl, by unfold fX3_isRow; rw [if_pos c1], ht⟩) (fun q h => absurd h List.not_mem_nil) dX3_isRow_14
  · refine lv_iload_n hx hb dX3_isRow_4 rfl (lv_at hl 0 rfl) ?_
    refine lv_iconst (v := 4) hx hb dX3_isRow_5 (by decide) ?_
    refine lv_icmp_ge (tgt := 13) hx hb dX3_isRow_6 (by decide) (fun c2 => ?_) (fun c2 => ?_)
    · refine lv_iconst (v := 0) hx hb dX3_isRow_13 (by decide) ?_
      exact W.zret hx hb hr (rfl) (fun t ht hW => ⟨_, rfl, by unfold fX3_isRow; rw [if_neg c1, if_pos c2], ht⟩) (fun q h => absurd h List.not_mem_nil) dX3_isRow_14
    · refine lv_iconst (v := 1) hx hb dX3_isRow_9 (by decide) ?_
      refine lv_goto (tgt := 14) hx hb dX3_isRow_10 (by decide) ?_
      exact W.zret hx hb hr (rfl) (fun t ht hW => ⟨_, rfl, by unfold fX3_isRow; rw [if_neg c1, if_neg c2], ht⟩) (fun q h => absurd h List.not_mem_nil) dX3_isRow_14
def fX3_isPlace (p0 : Int32) : Int32 := if p0 < 0 then (0) else (if 4000 < p0 then (0) else (1))
set_option maxHeartbeats 4000000 in
set_option maxRecDepth 100000 in
theorem c_X3_isPlace (l : Launch) (p0 : Int32) : Met l yX3_isPlace wX3_isPlace ({ frames := 0, cells := 0, slots := 0, locals := 0 }) (fun a _ => a = ([.int p0] : List Value).toArray) (vp_Si (fun r => r = fX3_isPlace p0)) 0 0 (fun _ => False) := by
  refine Met.ofW (cc := cX3_isPlace) (maxL := 1) (ret := (some .boolean)) (by decide) rfl ?_
  intro p e s m args below meth c s₁ B hml hv
  obtain rfl := hv
  have hx := B.exec
  have hb := B.bytes
  have hr := B.returns
  have hts := atoms_spec (ws := wX3_isPlace) B.pre
  have hw : ∀ w ∈ tg_, w.before _ s = true := fun w h => hts w (List.mem_cons_of_mem _ h)
  have hown : s.vm.findClass RX3 = some m.cls := findClass_of_methodNamed B.named
  have hlocks := B.notSynchronized
  have hl := lv_entry ([.int p0]) (n := 1) (Nat.le_of_ble_eq_true rfl)
  rw [lg_entry_eq]
  generalize (lg_sl ([.int p0]) ++ List.replicate (1 - (lg_sl ([.int p0])).length) Slot.unset).toArray = ls at hl ⊢
  have hl : lv_has ls 1 [(0, .int p0)] := hl
  refine lv_iload_n hx hb dX3_isPlace_0 rfl (lv_at hl 0 rfl) ?_
  refine lv_if_lt (tgt := 15) hx hb dX3_isPlace_1 (by decide) (fun c1 => ?_) (fun c1 => ?_)
  · refine lv_iconst (v := 0) hx hb dX3_isPlace_15 (by decide) ?_
    exact W.zret hx hb hr (rfl) (fun t ht hW => ⟨_, rfl, by unfold fX3_isPlace; rw [if_pos c1], ht⟩) (fun q h => absurd h List.not_mem_nil) dX3_isPlace_16
  · refine lv_iload_n hx hb dX3_isPlace_4 rfl (lv_at hl 0 rfl) ?_
    refine lv_sipush (v := 4000) hx hb dX3_isPlace_5 (by decide) ?_
    refine lv_icmp_gt (tgt := 15) hx hb dX3_isPlace_8 (by decide) (fun c2 => ?_) (fun c2 => ?_)
    · refine lv_iconst (v := 0) hx hb dX3_isPlace_15 (by decide) ?_
      exact W.zret hx hb hr (rfl) (fun t ht hW => ⟨_, rfl, by unfold fX3_isPlace; rw [if_neg c1, if_pos c2], ht⟩) (fun q h => absurd h List.not_mem_nil) dX3_isPlace_16
    · refine lv_iconst (v := 1) hx hb dX3_isPlace_11 (by decide) ?_
      refine lv_goto (tgt := 16) hx hb dX3_isPlace_12 (by decide) ?_
      exact W.zret hx hb hr (rfl) (fun t ht hW => ⟨_, rfl, by unfold fX3_isPlace; rw [if_neg c1, if_neg c2], ht⟩) (fun q h => absurd h List.not_mem_nil) dX3_isPlace_16
def fX3_isPiece (p0 : Int32) (p1 : Int32) : Int32 := if p0 < 0 then (0) else (if p1 < p0 then (0) else (if 4001 < p1 then (0) else (1)))
set_option maxHeartbeats 4000000 in
set_option maxRecDepth 100000 in
theorem c_X3_isPiece (l : Launch) (p0 : Int32) (p1 : Int32) : Met l yX3_isPiece wX3_isPiece ({ frames := 0, cells := 0, slots := 0, locals := 0 }) (fun a _ => a = ([.int p0, .int p1] : List Value).toArray) (vp_Si (fun r => r = fX3_isPiece p0 p1)) 0 0 (fun _ => False) := by
  refine Met.ofW (cc := cX3_isPiece) (maxL := 2) (ret := (some .boolean)) (by decide) rfl ?_
  intro p e s m args below meth c s₁ B hml hv
  obtain rfl := hv
  have hx := B.exec
  have hb := B.bytes
  have hr := B.returns
  have hts := atoms_spec (ws := wX3_isPiece) B.pre
  have hw : ∀ w ∈ tg_, w.before _ s = true := fun w h => hts w (List.mem_cons_of_mem _ h)
  have hown : s.vm.findClass RX3 = some m.cls := findClass_of_methodNamed B.named
  have hlocks := B.notSynchronized
  have hl := lv_entry ([.int p0, .int p1]) (n := 2) (Nat.le_of_ble_eq_true rfl)
  rw [lg_entry_eq]
  generalize (lg_sl ([.int p0, .int p1]) ++ List.replicate (2 - (lg_sl ([.int p0, .int p1])).length) Slot.unset).toArray = ls at hl ⊢
  have hl : lv_has ls 2 [(0, .int p0), (1, .int p1)] := hl
  refine lv_iload_n hx hb dX3_isPiece_0 rfl (lv_at hl 0 rfl) ?_
  refine lv_if_lt (tgt := 20) hx hb dX3_isPiece_1 (by decide) (fun c1 => ?_) (fun c1 => ?_)
  · refine lv_iconst (v := 0) hx hb dX3_isPiece_20 (by decide) ?_
    exact W.zret hx hb hr (rfl) (fun t ht hW => ⟨_, rfl, by unfold fX3_isPiece; rw [if_pos c1], ht⟩) (fun q h => absurd h List.not_mem_nil) dX3_isPiece_21
  · refine lv_iload_n hx hb dX3_isPiece_4 rfl (lv_at hl 0 rfl) ?_
    refine lv_iload_n hx hb dX3_isPiece_5 rfl (lv_at hl 1 rfl) ?_
    refine lv_icmp_gt (tgt := 20) hx hb dX3_isPiece_6 (by decide) (fun c2 => ?_) (fun c2 => ?_)
    · refine lv_iconst (v := 0) hx hb dX3_isPiece_20 (by decide) ?_
      exact W.zret hx hb hr (rfl) (fun t ht hW => ⟨_, rfl, by unfold fX3_isPiece; rw [if_neg c1, if_pos c2], ht⟩) (fun q h => absurd h List.not_mem_nil) dX3_isPiece_21
    · refine lv_iload_n hx hb dX3_isPiece_9 rfl (lv_at hl 1 rfl) ?_
      refine lv_sipush (v := 4001) hx hb dX3_isPiece_10 (by decide) ?_
      refine lv_icmp_gt (tgt := 20) hx hb dX3_isPiece_13 (by decide) (fun c3 => ?_) (fun c3 => ?_)
      · refine lv_iconst (v := 0) hx hb dX3_isPiece_20 (by decide) ?_
        exact W.zret hx hb hr (rfl) (fun t ht hW => ⟨_, rfl, by unfold fX3_isPiece; rw [if_neg c1, if_neg c2, if_pos c3], ht⟩) (fun q h => absurd h List.not_mem_nil) dX3_isPiece_21
      · refine lv_iconst (v := 1) hx hb dX3_isPiece_16 (by decide) ?_
        refine lv_goto (tgt := 21) hx hb dX3_isPiece_17 (by decide) ?_
        exact W.zret hx hb hr (rfl) (fun t ht hW => ⟨_, rfl, by unfold fX3_isPiece; rw [if_neg c1, if_neg c2, if_neg c3], ht⟩) (fun q h => absurd h List.not_mem_nil) dX3_isPiece_21
def fX3_changed (p0 : Int32) (p1 : Int32) : Int32 := if p1 = 1 then (1) else (if p1 = 2 then (if p0 = 0 then (1) else (0)) else (0))
set_option maxHeartbeats 4000000 in
set_option maxRecDepth 100000 in
theorem c_X3_changed (l : Launch) (p0 : Int32) (p1 : Int32) : Met l yX3_changed wX3_changed ({ frames := 0, cells := 0, slots := 0, locals := 0 }) (fun a _ => a = ([.int p0, .int p1] : List Value).toArray) (vp_Si (fun r => r = fX3_changed p0 p1)) 0 0 (fun _ => False) := by
  refine Met.ofW (cc := cX3_changed) (maxL := 2) (ret := (some .boolean)) (by decide) rfl ?_
  intro p e s m args below meth c s₁ B hml hv
  obtain rfl := hv
  have hx := B.exec
  have hb := B.bytes
  have hr := B.returns
  have hts := atoms_spec (ws := wX3_changed) B.pre
  have hw : ∀ w ∈ tg_, w.before _ s = true := fun w h => hts w (List.mem_cons_of_mem _ h)
  have hown : s.vm.findClass RX3 = some m.cls := findClass_of_methodNamed B.named
  have hlocks := B.notSynchronized
  have hl := lv_entry ([.int p0, .int p1]) (n := 2) (Nat.le_of_ble_eq_true rfl)
  rw [lg_entry_eq]
  generalize (lg_sl ([.int p0, .int p1]) ++ List.replicate (2 - (lg_sl ([.int p0, .int p1])).length) Slot.unset).toArray = ls at hl ⊢
  have hl : lv_has ls 2 [(0, .int p0), (1, .int p1)] := hl
  refine lv_iload_n hx hb dX3_changed_0 rfl (lv_at hl 1 rfl) ?_
  refine lv_iconst (v := 1) hx hb dX3_changed_1 (by decide) ?_
  refine lv_icmp_eq (tgt := 14) hx hb dX3_changed_2 (by decide) (fun c1 => ?_) (fun c1 => ?_)
  · refine lv_iconst (v := 1) hx hb dX3_changed_14 (by decide) ?_
    refine lv_goto (tgt := 19) hx hb dX3_changed_15 (by decide) ?_
    exact W.zret hx hb hr (rfl) (fun t ht hW => ⟨_, rfl, by unfold fX3_changed; rw [if_pos c1], ht⟩) (fun q h => absurd h List.not_mem_nil) dX3_changed_19
  · refine lv_iload_n hx hb dX3_changed_5 rfl (lv_at hl 1 rfl) ?_
    refine lv_iconst (v := 2) hx hb dX3_changed_6 (by decide) ?_
    refine lv_icmp_ne (tgt := 18) hx hb dX3_changed_7 (by decide) (fun c2 => ?_) (fun c2 => ?_)
    · refine lv_iconst (v := 0) hx hb dX3_changed_18 (by decide) ?_
      exact W.zret hx hb hr (rfl) (fun t ht hW => ⟨_, rfl, by unfold fX3_changed; rw [if_neg c1, if_neg c2], ht⟩) (fun q h => absurd h List.not_mem_nil) dX3_changed_19
    · refine lv_iload_n hx hb dX3_changed_10 rfl (lv_at hl 0 rfl) ?_
      refine lv_if_ne (tgt := 18) hx hb dX3_changed_11 (by decide) (fun c3 => ?_) (fun c3 => ?_)
      · refine lv_iconst (v := 0) hx hb dX3_changed_18 (by decide) ?_
        exact W.zret hx hb hr (rfl) (fun t ht hW => ⟨_, rfl, by unfold fX3_changed; rw [if_neg c1, if_pos c2, if_neg c3], ht⟩) (fun q h => absurd h List.not_mem_nil) dX3_changed_19
      · refine lv_iconst (v := 1) hx hb dX3_changed_14 (by decide) ?_
        refine lv_goto (tgt := 19) hx hb dX3_changed_15 (by decide) ?_
        exact W.zret hx hb hr (rfl) (fun t ht hW => ⟨_, rfl, by unfold fX3_changed; rw [if_neg c1, if_pos c2, if_pos c3], ht⟩) (fun q h => absurd h List.not_mem_nil) dX3_changed_19
/-! the reference's world: rows and piece as bits, signs, how many -/
def bz (b : Nat → Bool) (k : Nat) : Int32 := b01 (b k)
abbrev AdR : Type := (Nat × Nat × Nat × Nat) × (Nat → Nat) × (ClassId × ClassId × ClassId × (Nat → ClassId))
def mh_ (A : AdR) : Nat := A.1.1
def mq_ (A : AdR) : Nat := A.1.2.1
def mp_ (A : AdR) : Nat := A.1.2.2.1
def ms_ (A : AdR) : Nat := A.1.2.2.2
def mr_ (A : AdR) (j : Nat) : Nat := A.2.1 j
def nQ_ (A : AdR) : ClassId := A.2.2.1
def nP_ (A : AdR) : ClassId := A.2.2.2.1
def nS_ (A : AdR) : ClassId := A.2.2.2.2.1
def nZ_ (A : AdR) (j : Nat) : ClassId := A.2.2.2.2.2 j
abbrev StR : Type := (Nat → Nat → Bool) × (Nat → Bool) × (Nat → Int32) × Int32
def mqF (A : AdR) : Nat → Option Nat := va_up (va_up (va_up (va_up (fun _ => none) 0 (some (mr_ A 0))) 1 (some (mr_ A 1))) 2 (some (mr_ A 2))) 3 (some (mr_ A 3))
theorem mqF_at (A : AdR) {j : Nat} (hj : j < 4) : mqF A j = some (mr_ A j) := by
  rcases j4 hj with rfl | rfl | rfl | rfl <;> rfl
def wR (A : AdR) (u : StR) : va_W := [(mh_ A, .inr (3, [.ref (mq_ A), .ref (mp_ A), .ref (ms_ A), .int u.2.2.2])), (mq_ A, .inl (nQ_ A, 4, .inr (.inr (.inr (.inr (mqF A)))))), (mp_ A, .inl (nP_ A, 4032, .inl (bz u.2.1))), (ms_ A, .inl (nS_ A, 700, .inl u.2.2.1)),
  (mr_ A 0, .inl (nZ_ A 0, 4032, .inl (bz (u.1 0)))), (mr_ A 1, .inl (nZ_ A 1, 4032, .inl (bz (u.1 1)))), (mr_ A 2, .inl (nZ_ A 2, 4032, .inl (bz (u.1 2)))), (mr_ A 3, .inl (nZ_ A 3, 4032, .inl (bz (u.1 3))))]
def tyR (A : AdR) : List (ClassId × FieldType) := [(nQ_ A, .array .boolean), (nP_ A, .boolean), (nS_ A, .byte), (nZ_ A 0, .boolean), (nZ_ A 1, .boolean), (nZ_ A 2, .boolean), (nZ_ A 3, .boolean)]
def aR (A : AdR) (sz : Nat) : Nat → Prop := va_A (wR A (fun _ _ => false, fun _ => false, fun _ => 0, 0)) sz
def upR (M : Nat → Nat → Bool) (j : Nat) (f : Nat → Bool) : Nat → Nat → Bool := fun k => if k = j then f else M k
theorem upR_s (M : Nat → Nat → Bool) (j : Nat) (f : Nat → Bool) : upR M j f j = f := if_pos rfl
theorem upR_n (M : Nat → Nat → Bool) {j k : Nat} (f : Nat → Bool) (h : ¬ k = j) : upR M j f k = M k := if_neg h
theorem upR_u (M : Nat → Nat → Bool) (j : Nat) (f g : Nat → Bool) : upR (upR M j f) j g = upR M j g := by
  funext k
  by_cases h : k = j
  · subst h; rw [upR_s, upR_s]
  · rw [upR_n _ _ h, upR_n _ _ h, upR_n _ _ h]
theorem upR_id (M : Nat → Nat → Bool) (j : Nat) : upR M j (M j) = M := by
  funext k
  by_cases h : k = j
  · subst h; rw [upR_s]
  · rw [upR_n _ _ h]
def upZ (f : Nat → Bool) (k : Nat) (b : Bool) : Nat → Bool := fun q => if q = k then b else f q
theorem bz_up (f : Nat → Bool) (k : Nat) (b : Bool) : upd (bz f) k (b01 b) = bz (upZ f k b) := by
  funext q
  by_cases h : q = k
  · subst h
    rw [pk_us]
    unfold bz upZ
    rw [if_pos rfl]
  · rw [pk_un h]
    unfold bz upZ
    rw [if_neg h]
theorem wR_row (A : AdR) (u : StR) {j : Nat} (hj : j < 4) : (wR A u)[4 + j]? = some (mr_ A j, .inl (nZ_ A j, 4032, .inl (bz (u.1 j)))) := by
  rcases j4 hj with rfl | rfl | rfl | rfl <;> rfl
theorem tyR_row (A : AdR) {j : Nat} (hj : j < 4) : (tyR A)[3 + j]? = some (nZ_ A j, .boolean) := by
  rcases j4 hj with rfl | rfl | rfl | rfl <;> rfl
theorem wR_set (A : AdR) (u : StR) {j : Nat} (hj : j < 4) (f : Nat → Bool) : (wR A u).set (4 + j) (mr_ A j, .inl (nZ_ A j, 4032, .inl (bz f))) = wR A (upR u.1 j f, u.2) := by
  rcases j4 hj with rfl | rfl | rfl | rfl <;> rfl
theorem wR_pc (A : AdR) (u : StR) (f : Nat → Bool) : (wR A u).set 2 (mp_ A, .inl (nP_ A, 4032, .inl (bz f))) = wR A (u.1, f, u.2.2) := rfl
theorem aR_mono {A : AdR} {sz sz' q : Nat} (h : sz ≤ sz') (k : aR A sz' q) : aR A sz q := k.imp id (Nat.le_trans h)
theorem wR_at (A : AdR) (u v : StR) {k : Nat} {q : Nat × va_E} (h : (wR A u)[k]? = some q) : ∃ e, (wR A v)[k]? = some (q.1, e) := by
  have hk : k < 8 := (List.getElem?_eq_some_iff.mp h).1
  rcases (show k = 0 ∨ k = 1 ∨ k = 2 ∨ k = 3 ∨ k = 4 ∨ k = 5 ∨ k = 6 ∨ k = 7 by omega) with rfl | rfl | rfl | rfl | rfl | rfl | rfl | rfl <;> (cases h; exact ⟨_, rfl⟩)
theorem aR_D {A : AdR} {X : Nat → Prop} {sz : Nat} {v : StR} (h : va_D X (wR A v)) : va_D (aR A sz) (wR A v) := ⟨h.1, fun k q hk => by
  obtain ⟨e, he⟩ := wR_at A v (fun _ _ => false, fun _ => false, fun _ => 0, 0) hk
  exact Or.inl ⟨k, e, he⟩⟩
theorem tr_PR {D : va_G} {A : AdR} {u v : StR} {H : Heap} (e : u = v) (h : va_P D bwCl (wR A u) H) : va_P D bwCl (wR A v) H := by
  subst e
  exact h
theorem tr_DR {X : Nat → Prop} {A : AdR} {u v : StR} (e : u = v) (h : va_D X (wR A u)) : va_D X (wR A v) := by
  subst e
  exact h
theorem stR_P {D : va_G} {A : AdR} {u : StR} {H : Heap} {j k : Nat} {x : Int32} {b : Bool} (hx : vp_nar .boolean x = b01 b) (hj : j < 4) (h : va_P D bwCl ((wR A u).set (4 + j) (mr_ A j, .inl (nZ_ A j, 4032, .inl (upd (bz (u.1 j)) k (vp_nar .boolean x))))) H) : va_P D bwCl (wR A (upR u.1 j (upZ (u.1 j) k b), u.2)) H := by
  rw [hx, bz_up, wR_set A u hj] at h
  exact h
theorem stR_D {X : Nat → Prop} {A : AdR} {u : StR} {j k : Nat} {x : Int32} {b : Bool} (hx : vp_nar .boolean x = b01 b) (hj : j < 4) (h : va_D X ((wR A u).set (4 + j) (mr_ A j, .inl (nZ_ A j, 4032, .inl (upd (bz (u.1 j)) k (vp_nar .boolean x)))))) : va_D X (wR A (upR u.1 j (upZ (u.1 j) k b), u.2)) := by
  rw [hx, bz_up, wR_set A u hj] at h
  exact h
theorem stp_P {D : va_G} {A : AdR} {u : StR} {H : Heap} {k : Nat} {x : Int32} {b : Bool} (hx : vp_nar .boolean x = b01 b) (h : va_P D bwCl ((wR A u).set 2 (mp_ A, .inl (nP_ A, 4032, .inl (upd (bz u.2.1) k (vp_nar .boolean x))))) H) : va_P D bwCl (wR A (u.1, upZ u.2.1 k b, u.2.2)) H := by
  rw [hx, bz_up, wR_pc A u] at h
  exact h
theorem stp_D {X : Nat → Prop} {A : AdR} {u : StR} {k : Nat} {x : Int32} {b : Bool} (hx : vp_nar .boolean x = b01 b) (h : va_D X ((wR A u).set 2 (mp_ A, .inl (nP_ A, 4032, .inl (upd (bz u.2.1) k (vp_nar .boolean x)))))) : va_D X (wR A (u.1, upZ u.2.1 k b, u.2.2)) := by
  rw [hx, bz_up, wR_pc A u] at h
  exact h
theorem nb_b (b : Bool) : vp_nar .boolean (b01 b) = b01 b := by
  cases b <;> decide
theorem nb_0 : vp_nar .boolean 0 = b01 false := by decide
theorem nb_1 : vp_nar .boolean 1 = b01 true := by decide
theorem b1f {b : Bool} (h : b01 b = 0) : b = false := by
  cases b with
  | false => rfl
  | true => exact absurd h (by decide)
theorem b1t {b : Bool} (h : ¬ b01 b = 0) : b = true := by
  cases b with
  | false => exact absurd rfl h
  | true => rfl
theorem bzf {b : Nat → Bool} {k : Nat} (h : bz b k = 0) : b k = false := b1f h
theorem bzt {b : Nat → Bool} {k : Nat} (h : ¬ bz b k = 0) : b k = true := b1t h
theorem b1_1 {b : Bool} (h : b01 b = 1) : b = true := (b01_1 b).mp h
theorem b1_n {b : Bool} (h : ¬ b01 b = 1) : b = false := by
  cases b with
  | false => rfl
  | true => exact absurd rfl h
theorem b1_e {b d : Bool} (h : b01 b = b01 d) : b = d := by
  cases b <;> cases d <;> first | rfl | exact absurd h (by decide)
theorem b1_ne {b d : Bool} (h : ¬ b01 b = b01 d) : ¬ b = d := fun e => h (by rw [e])
section RL
variable {p : Program} {l : Launch} {e : Env} {R : Room} {s : State} {m : MethodId} {args : Array Value} {below : List Frame} {meth : Method} {c : Code} {H : Heap} {locs : List Loc} {cells slots : Nat} {Q : State → Prop}
variable {cc : ByteArray} {pc : Nat} {ls : Array Slot} {rest : List Value} {D : va_G} {cl : List vw_C} {a : Nat} {tys : List (ClassId × FieldType)} {ws : va_W}
/-- a row out of an array of rows -/
theorem va_aldz (hexec : p.tables.exec = Jvm.exec) (hb : c.code = cc) (hK : va_K D cl tys s) (hP : va_P D cl ws H) (q0 t0 : Nat) {cA : ClassId} {n : Nat} {f : Nat → Option Nat} (ha : ws[q0]? = some (a, .inl (cA, n, .inr (.inr (.inr (.inr f)))))) (ht : tys[t0]? = some (cA, .array .boolean)) {i : Int32} (hin : vp_in i n) (hdg : decode cc pc = .ok (.aaload, 1))
    (kk : W p l e R s m args below meth c H locs cells slots Q (F0 m (pc + 1) ls (va_rf (f i.toNatClampNeg) :: rest))) : W p l e R s m args below meth c H locs cells slots Q (F0 m pc ls (.int i :: .ref a :: rest)) := by
  have hlt : i.toNatClampNeg < n := Nat.not_le.mp fun q => hin (Or.inr q)
  exact W.aald (v := va_rf (f i.toNatClampNeg)) (ty := .array .boolean) hexec hb (hP q0 _ ha) ((hK.2 t0 _ ht).1 n (fun j => va_rf (f j))) rfl (fun q => by cases q) (by show ¬ (i < 0 ∨ (arrV _ _ _).slots.size ≤ _); rw [arrV_size]; exact hin) (by show (arrV _ _ _).slots[_]? = _; rw [arrV_read _ _ hlt]) rfl rfl hdg kk
end RL
/-- from a on, up to i, F; else g -/
def flz (F g : Nat → Bool) (a i : Nat) : Nat → Bool := fun k => if a ≤ k ∧ k < i then F k else g k
theorem flz_0 (F g : Nat → Bool) (a : Nat) : flz F g a a = g := by
  funext k
  exact if_neg (by omega)
theorem flz_ge (F g : Nat → Bool) (a : Nat) {i k : Nat} (h : i ≤ k) : flz F g a i k = g k := if_neg (by omega)
theorem flz_s (F g : Nat → Bool) {a i : Nat} (ha : a ≤ i) {b : Bool} (hb : b = F i) : upZ (flz F g a i) i b = flz F g a (i + 1) := by
  funext k
  unfold upZ flz
  by_cases h : k = i
  · subst h
    rw [if_pos rfl, if_pos (by omega), hb]
  · rw [if_neg h]
    by_cases h2 : a ≤ k ∧ k < i
    · rw [if_pos h2, if_pos (by omega)]
    · rw [if_neg h2, if_neg (by omega)]
theorem fz_u0 (F : Nat → Bool) (u : StR) (j a : Nat) : u = (upR u.1 j (flz F (u.1 j) a a), u.2) := by
  rw [flz_0, upR_id]
theorem fz_uS (F : Nat → Bool) (u : StR) (j : Nat) {a i : Nat} (ha : a ≤ i) {b : Bool} (hb : b = F i) : ((upR (upR u.1 j (flz F (u.1 j) a i)) j (upZ (upR u.1 j (flz F (u.1 j) a i) j) i b), u.2) : StR) = (upR u.1 j (flz F (u.1 j) a (i + 1)), u.2) := by
  rw [upR_u, upR_s, flz_s _ _ ha hb]
theorem fz_rd (F : Nat → Bool) (M : Nat → Nat → Bool) (j o a : Nat) {i k : Nat} (h : i ≤ k) : bz (upR M j (flz F (M j) a i) o) k = bz (M o) k := by
  unfold bz
  by_cases hq : o = j
  · subst hq
    rw [upR_s, flz_ge _ _ _ h]
  · rw [upR_n _ _ hq]
theorem cn_1 {b : Nat → Bool} {n : Nat} (h : b n = true) : nI (cnt b n) + 1 = nI (cnt b (n + 1)) := by
  rw [nI_1]
  show _ = nI (cnt b n + (if b n = true then 1 else 0))
  rw [if_pos h]
theorem cn_0 {b : Nat → Bool} {n : Nat} (h : b n = false) : nI (cnt b n) + 0 = nI (cnt b (n + 1)) := by
  show nI (cnt b n) + nI 0 = nI (cnt b n + (if b n = true then 1 else 0))
  rw [if_neg (by rw [h]; exact Bool.false_ne_true), nI_add]
def chZ (what : Int32) (old : Bool) : Bool := if what = 1 then true else if what = 2 then !old else false
theorem ch_z (p : Int32) (b : Bool) : vp_nar .boolean (fX3_changed (b01 b) p) = b01 (chZ p b) := by
  unfold fX3_changed chZ
  by_cases h1 : p = 1
  · rw [if_pos h1, if_pos h1]
    exact nb_1
  · rw [if_neg h1, if_neg h1]
    by_cases h2 : p = 2
    · rw [if_pos h2, if_pos h2]
      cases b <;> decide
    · rw [if_neg h2, if_neg h2]
      exact nb_0
theorem pl_in {p : Int32} (h : ¬ fX3_isPlace p = 0) : p.toNatClampNeg ≤ 4000 ∧ p = nI p.toNatClampNeg := by
  unfold fX3_isPlace at h
  by_cases c1 : p < 0
  · rw [if_pos c1] at h
    exact absurd rfl h
  · rw [if_neg c1] at h
    by_cases c2 : 4000 < p
    · rw [if_pos c2] at h
      exact absurd rfl h
    · obtain ⟨a, ha, rfl⟩ := nI_of c1
      rw [nI_clamp ha]
      rw [Int32.lt_iff_toInt_lt, nI_toInt ha, show (4000 : Int32).toInt = 4000 from rfl] at c2
      exact ⟨by omega, rfl⟩
theorem pl_4032 {p : Int32} (h : ¬ fX3_isPlace p = 0) : vp_in p 4032 := by
  obtain ⟨h1, h2⟩ := pl_in h
  rw [h2]
  exact vp_in_nI (by omega) (by decide)
theorem pc_ab {p1 p2 : Int32} (h : ¬ fX3_isPiece p1 p2 = 0) : p1.toNatClampNeg ≤ p2.toNatClampNeg ∧ p2.toNatClampNeg ≤ 4001 ∧ p1 = nI p1.toNatClampNeg ∧ p2 = nI p2.toNatClampNeg := by
  obtain ⟨a, b, h1, h2, rfl, rfl⟩ := pc_of (p1 := p1) (p2 := p2) h
  rw [nI_clamp (by omega), nI_clamp (by omega)]
  exact ⟨h1, h2, rfl, rfl⟩
theorem z_lit0 {f : Nat → Bool} {k : Nat} (h : f k = false) : (0 : Int32) = bz f k := by
  unfold bz
  rw [h]
  rfl
theorem z_lit1 {f : Nat → Bool} {k : Nat} (h : f k = true) : (1 : Int32) = bz f k := by
  unfold bz
  rw [h]
  rfl
end
section
/-! what the reference's methods answer and do -/
def pcZ (f : Nat → Bool) (p : Int32) (k : Nat) : Bool := chZ p (f k)
def cbZ (f g : Nat → Bool) (p : Int32) (k : Nat) : Bool := cbB p (f k) (g k)
def ldZ (a b c : Int64) (k : Nat) : Bool := if 192 ≤ k then false else bl (if k < 64 then a else if k < 128 then b else c) (k % 64)
def ctZ (f : Nat → Bool) (a b k : Nat) : Bool := decide (k < b - a) && f (a + k)
def peR (f : Nat → Bool) (r : Int32) : Prop := ∃ K, K ≤ 4032 ∧ r = nI K ∧ (∀ k, K ≤ k → k < 4032 → f k = false) ∧ (0 < K → f (K - 1) = true)
theorem dn_s {p : Nat → Prop} {i : Nat} (h : ∀ k, i + 1 ≤ k → k < 4032 → p k) (hi : p i) : ∀ k, i ≤ k → k < 4032 → p k := by
  intro k h1 h2
  by_cases e : k = i
  · exact e ▸ hi
  · exact h k (by omega) h2
theorem nx_s {p : Nat → Prop} {a i : Nat} (h : ∀ k, a ≤ k → k < i → p k) (hi : p i) : ∀ k, a ≤ k → k < i + 1 → p k := by
  intro k h1 h2
  by_cases e : k = i
  · exact e ▸ hi
  · exact h k h1 (by omega)
theorem ny_s {p : Nat → Prop} {a i : Nat} (h : ∀ k, i + 1 ≤ k → k ≤ a → p k) (hi : p i) : ∀ k, i ≤ k → k ≤ a → p k := by
  intro k h1 h2
  by_cases e : k = i
  · exact e ▸ hi
  · exact h k (by omega) h2
theorem pl_n {p : Int32} (h : ¬ fX3_isPlace p = 0) : p = nI p.toNatClampNeg ∧ p.toNatClampNeg ≤ 4032 ∧ p.toNatClampNeg ≤ 4000 := by
  obtain ⟨h1, h2⟩ := pl_in h
  exact ⟨h2, by omega, h1⟩
def fpG (f : Nat → Bool) (b : Bool) (p : Nat) (d r : Int32) : Prop := (∃ K, p ≤ K ∧ K < 4032 ∧ f K = b ∧ (∀ k, p ≤ k → k < K → f k = !b) ∧ r = nI K) ∨ ((∀ k, p ≤ k → k < 4032 → f k = !b) ∧ r = d)
def fpH (f : Nat → Bool) (b : Bool) (p : Nat) (r : Int32) : Prop := (∃ K, K ≤ p ∧ f K = b ∧ (∀ k, K < k → k ≤ p → f k = !b) ∧ r = nI K) ∨ ((∀ k, k ≤ p → f k = !b) ∧ r = -1)
theorem fq_u0 (F : Nat → Bool) (u : StR) : u = (u.1, flz F u.2.1 0 0, u.2.2) := by
  rw [flz_0]
theorem fq_uS (F : Nat → Bool) (u : StR) {i : Nat} {b : Bool} (hb : b = F i) : ((u.1, upZ (flz F u.2.1 0 i) i b, u.2.2) : StR) = (u.1, flz F u.2.1 0 (i + 1), u.2.2) := by
  rw [flz_s _ _ (Nat.zero_le _) hb]
theorem fk_u0 (F G : Nat → Bool) (u : StR) (j : Nat) : ((u.1, G, u.2.2) : StR) = (upR u.1 j (flz F (u.1 j) 0 0), G, u.2.2) := by
  rw [flz_0, upR_id]
theorem fk_uS (F G : Nat → Bool) (u : StR) (j : Nat) {i : Nat} : ((upR (upR u.1 j (flz F (u.1 j) 0 i)) j (upZ (upR u.1 j (flz F (u.1 j) 0 i) j) i (F i)), G, u.2.2) : StR) = (upR u.1 j (flz F (u.1 j) 0 (i + 1)), G, u.2.2) := by
  rw [upR_u, upR_s, flz_s _ _ (Nat.zero_le _) rfl]
section CT
variable {p2 p3 : Int32} {f : Nat → Bool} {i : Nat}
theorem ct_sub (hpc : p2.toNatClampNeg ≤ p3.toNatClampNeg ∧ p3.toNatClampNeg ≤ 4001 ∧ p2 = nI p2.toNatClampNeg ∧ p3 = nI p3.toNatClampNeg) : p3 - p2 = nI (p3.toNatClampNeg - p2.toNatClampNeg) := by
  obtain ⟨h1, h2, h3, h4⟩ := hpc
  generalize p2.toNatClampNeg = a at *
  generalize p3.toNatClampNeg = b at *
  rw [h3, h4, pk_sub h1]
theorem ct_lt (hpc : p2.toNatClampNeg ≤ p3.toNatClampNeg ∧ p3.toNatClampNeg ≤ 4001 ∧ p2 = nI p2.toNatClampNeg ∧ p3 = nI p3.toNatClampNeg) (hi : i < 4032) (c : ¬ p3 - p2 ≤ nI i) : i < p3.toNatClampNeg - p2.toNatClampNeg := by
  rw [ct_sub hpc, nI_leI (by omega) (by omega)] at c
  omega
theorem ct_ix (hpc : p2.toNatClampNeg ≤ p3.toNatClampNeg ∧ p3.toNatClampNeg ≤ 4001 ∧ p2 = nI p2.toNatClampNeg ∧ p3 = nI p3.toNatClampNeg) : p2 + nI i = nI (p2.toNatClampNeg + i) := by
  have h3 := hpc.2.2.1
  generalize p2.toNatClampNeg = a at *
  rw [h3, nI_add]
theorem ct_hi (hpc : p2.toNatClampNeg ≤ p3.toNatClampNeg ∧ p3.toNatClampNeg ≤ 4001 ∧ p2 = nI p2.toNatClampNeg ∧ p3 = nI p3.toNatClampNeg) (hi : i < 4032) (c : p3 - p2 ≤ nI i) : false = ctZ f p2.toNatClampNeg p3.toNatClampNeg i := by
  rw [ct_sub hpc, nI_leI (by omega) (by omega)] at c
  unfold ctZ
  rw [decide_eq_false (by omega)]
  rfl
theorem ct_t (hpc : p2.toNatClampNeg ≤ p3.toNatClampNeg ∧ p3.toNatClampNeg ≤ 4001 ∧ p2 = nI p2.toNatClampNeg ∧ p3 = nI p3.toNatClampNeg) (hi : i < 4032) (c : ¬ p3 - p2 ≤ nI i) (h : f (p2.toNatClampNeg + i) = true) : true = ctZ f p2.toNatClampNeg p3.toNatClampNeg i := by
  have := ct_lt hpc hi c
  unfold ctZ
  rw [decide_eq_true this, h]
  rfl
theorem ct_f (hpc : p2.toNatClampNeg ≤ p3.toNatClampNeg ∧ p3.toNatClampNeg ≤ 4001 ∧ p2 = nI p2.toNatClampNeg ∧ p3 = nI p3.toNatClampNeg) (hi : i < 4032) (c : ¬ p3 - p2 ≤ nI i) (h : f (p2.toNatClampNeg + i) = false) : false = ctZ f p2.toNatClampNeg p3.toNatClampNeg i := by
  unfold ctZ
  rw [h, Bool.and_false]
end CT
/-! load -/
theorem ts_f {b : Bool} (h : ¬ b = true) : b = false := by
  cases b with
  | false => rfl
  | true => exact absurd rfl h
theorem ls_bit (x : Int64) {k : Nat} (hk : k < 64) : bl (x >>> ((nI k).toInt64 &&& 63)) 0 = bl x k := by
  unfold bl
  rw [wb_c k hk, Int64.toBitVec_shiftRight, wb_tb, wb_sm k hk, BitVec.sshiftRight_eq', BitVec.getLsbD_sshiftRight, BitVec.toNat_ofNat]
  rw [show k % 2 ^ 64 = k from Nat.mod_eq_of_lt (by omega)]
  simp [show k < 64 from hk]
theorem ls_1 (x : Int64) : (x &&& 1 = 1) ↔ bl x 0 = true := by
  constructor
  · intro h
    have h2 : bl (x &&& 1) 0 = bl 1 0 := by rw [h]
    rw [bl_and] at h2
    have e : bl 1 0 = true := by decide
    rw [e, Bool.and_true] at h2
    exact h2
  · intro h
    apply bl_ext
    intro i hi
    rw [bl_and]
    by_cases e : i = 0
    · subst e
      rw [h, Bool.true_and]
    · have e1 : bl 1 i = false := by
        rw [show (1 : Int64) = lN 1 from rfl, bl_lN, Nat.testBit_lt_two_pow (Nat.one_lt_two_pow e), Bool.and_false]
      rw [e1, Bool.and_false]
theorem ls_ok (x : Int64) {i : Nat} (hi : i < 4032) : (lg_cmp ((x >>> ((nI i - nI i / 64 * 64).toInt64 &&& 63)) &&& 1) 1 = 0) ↔ bl x (i % 64) = true := by
  have e : nI i - nI i / 64 * 64 = nI (i % 64) := pk_rem (d := 64) (by omega) (by decide) (by decide)
  rw [e, lg_cmp_eq, ls_1, ls_bit x (by omega)]
section LD
variable {a b c : Int64} {i : Nat}
theorem ld_hi (hi : i < 4032) (c1 : 192 ≤ nI i) : false = ldZ a b c i := by
  have h : 192 ≤ i := (nI_leI (a := 192) (by decide) (by omega)).mp c1
  unfold ldZ
  rw [if_pos h]
theorem ld_v (hi : i < 4032) (c1 : ¬ 192 ≤ nI i) : ldZ a b c i = bl (if i < 64 then a else if i < 128 then b else c) (i % 64) := by
  have h : ¬ 192 ≤ i := fun h => c1 (nI_le (a := 192) h (by omega))
  unfold ldZ
  rw [if_neg h]
theorem l64 (hi : i < 4032) (c2 : ¬ 64 ≤ nI i) : i < 64 := Nat.not_le.mp fun h => c2 (nI_le (a := 64) h (by omega))
theorem g64 (hi : i < 4032) (c2 : 64 ≤ nI i) : ¬ i < 64 := Nat.not_lt.mpr ((nI_leI (a := 64) (by decide) (by omega)).mp c2)
theorem l128 (hi : i < 4032) (c2 : ¬ 128 ≤ nI i) : i < 128 := Nat.not_le.mp fun h => c2 (nI_le (a := 128) h (by omega))
theorem g128 (hi : i < 4032) (c2 : 128 ≤ nI i) : ¬ i < 128 := Nat.not_lt.mpr ((nI_leI (a := 128) (by decide) (by omega)).mp c2)
theorem ld_t1 (hi : i < 4032) (c1 : ¬ 192 ≤ nI i) (c2 : ¬ 64 ≤ nI i) (k : lg_cmp ((a >>> ((nI i - nI i / 64 * 64).toInt64 &&& 63)) &&& 1) 1 = 0) : true = ldZ a b c i := by
  rw [ld_v hi c1, if_pos (l64 hi c2), (ls_ok a hi).mp k]
theorem ld_f1 (hi : i < 4032) (c1 : ¬ 192 ≤ nI i) (c2 : ¬ 64 ≤ nI i) (k : ¬ lg_cmp ((a >>> ((nI i - nI i / 64 * 64).toInt64 &&& 63)) &&& 1) 1 = 0) : false = ldZ a b c i := by
  rw [ld_v hi c1, if_pos (l64 hi c2)]
  exact (ts_f (fun h => k ((ls_ok a hi).mpr h))).symm
theorem ld_t2 (hi : i < 4032) (c1 : ¬ 192 ≤ nI i) (c2 : 64 ≤ nI i) (c3 : ¬ 128 ≤ nI i) (k : lg_cmp ((b >>> ((nI i - nI i / 64 * 64).toInt64 &&& 63)) &&& 1) 1 = 0) : true = ldZ a b c i := by
  rw [ld_v hi c1, if_neg (g64 hi c2), if_pos (l128 hi c3), (ls_ok b hi).mp k]
theorem ld_f2 (hi : i < 4032) (c1 : ¬ 192 ≤ nI i) (c2 : 64 ≤ nI i) (c3 : ¬ 128 ≤ nI i) (k : ¬ lg_cmp ((b >>> ((nI i - nI i / 64 * 64).toInt64 &&& 63)) &&& 1) 1 = 0) : false = ldZ a b c i := by
  rw [ld_v hi c1, if_neg (g64 hi c2), if_pos (l128 hi c3)]
  exact (ts_f (fun h => k ((ls_ok b hi).mpr h))).symm
theorem ld_t3 (hi : i < 4032) (c1 : ¬ 192 ≤ nI i) (c2 : 64 ≤ nI i) (c3 : 128 ≤ nI i) (k : lg_cmp ((c >>> ((nI i - nI i / 64 * 64).toInt64 &&& 63)) &&& 1) 1 = 0) : true = ldZ a b c i := by
  rw [ld_v hi c1, if_neg (g64 hi c2), if_neg (g128 hi c3), (ls_ok c hi).mp k]
theorem ld_f3 (hi : i < 4032) (c1 : ¬ 192 ≤ nI i) (c2 : 64 ≤ nI i) (c3 : 128 ≤ nI i) (k : ¬ lg_cmp ((c >>> ((nI i - nI i / 64 * 64).toInt64 &&& 63)) &&& 1) 1 = 0) : false = ldZ a b c i := by
  rw [ld_v hi c1, if_neg (g64 hi c2), if_neg (g128 hi c3)]
  exact (ts_f (fun h => k ((ls_ok c hi).mpr h))).symm
end LD
/-! meet -/
def anB (f g : Nat → Bool) : Nat → Bool
  | 0 => false
  | n + 1 => anB f g n || (f n && g n)
def alB (f g : Nat → Bool) : Nat → Bool
  | 0 => true
  | n + 1 => alB f g n && (f n == g n)
/-! walk -/
theorem wk_n {f : Nat → Bool} {i : Nat} (h : f i = false) : wkf f 0 (i + 1) (0, 0) = wkf f 0 i (0, 0) := by
  show (if f i = true then _ else _) = _
  rw [if_neg (by rw [h]; exact Bool.false_ne_true)]
theorem wk_t {f : Nat → Bool} {i : Nat} (h : f i = true) : wkf f 0 (i + 1) (0, 0) = ((wkf f 0 i (0, 0)).1 + 1, (wkf f 0 i (0, 0)).2 + ((wkf f 0 i (0, 0)).1 + 1) * (0 + i)) := by
  show (if f i = true then _ else _) = _
  rw [if_pos h]
theorem wk_r {f : Nat → Bool} {i : Nat} (h : f i = true) : nI (wkf f 0 i (0, 0)).1 + 1 = nI (wkf f 0 (i + 1) (0, 0)).1 := by
  rw [wk_t h, nI_1]
theorem wk_le (f : Nat → Bool) : ∀ i, (wkf f 0 i (0, 0)).1 ≤ i := by
  intro i
  induction i with
  | zero => exact Nat.le_refl _
  | succ i ih =>
    cases h : f i with
    | false =>
      rw [wk_n h]
      omega
    | true =>
      rw [wk_t h]
      show _ + 1 ≤ i + 1
      omega
theorem wk_s {f : Nat → Bool} {i : Nat} (hi : i < 4032) (h : f i = true) : lN (wkf f 0 i (0, 0)).2 + (nI i).toInt64 * (nI (wkf f 0 (i + 1) (0, 0)).1).toInt64 = lN (wkf f 0 (i + 1) (0, 0)).2 := by
  have h1 := wk_le f i
  rw [wk_t h, nI_l (by omega), nI_l (show (wkf f 0 i (0, 0)).1 + 1 < 2 ^ 31 by omega), lN_mul, lN_add, Nat.zero_add, Nat.mul_comm i]
/-! word -/
def wdG (f : Nat → Bool) (n k : Nat) : Bool := f (64 * n + k)
def hwN (g : Nat → Bool) : Nat → Nat
  | 0 => 0
  | m + 1 => 2 * hwN g m + (if g (63 - m) = true then 1 else 0)
theorem wd_n {p : Int32} (c1 : ¬ p < 0) (c2 : p ≤ 62) : p = nI p.toNatClampNeg ∧ p.toNatClampNeg ≤ 62 := by
  obtain ⟨j, hj, rfl⟩ := nI_of2 (n := 62) rfl c1 c2
  rw [nI_clamp (by omega)]
  exact ⟨rfl, hj⟩
theorem wd_ix {p : Int32} {i : Nat} (h : p = nI p.toNatClampNeg ∧ p.toNatClampNeg ≤ 62) : 64 * p + nI i = nI (64 * p.toNatClampNeg + i) := by
  have h1 := h.1
  generalize p.toNatClampNeg = n at *
  rw [h1, show (64 : Int32) = nI 64 from rfl, pk_mul, nI_add]
theorem hw_s (g : Nat → Bool) {i : Nat} (hi : i < 64) : hwN g (64 - i) = 2 * hwN g (64 - (i + 1)) + (if g i = true then 1 else 0) := by
  obtain ⟨m, hm⟩ : ∃ m, 64 - i = m + 1 := ⟨63 - i, by omega⟩
  rw [hm, show 64 - (i + 1) = m by omega]
  show 2 * hwN g m + (if g (63 - m) = true then 1 else 0) = _
  rw [show 63 - m = i by omega]
theorem hw_0 {f : Nat → Bool} {n i : Nat} (hi : i < 64) (h : f (64 * n + i) = false) : 2 * lN (hwN (wdG f n) (64 - (i + 1))) + 0 = lN (hwN (wdG f n) (64 - i)) := by
  rw [hw_s _ hi, if_neg (show ¬ wdG f n i = true by unfold wdG; rw [h]; exact Bool.false_ne_true), show (2 : Int64) = lN 2 from rfl, show (0 : Int64) = lN 0 from rfl, lN_mul, lN_add]
theorem hw_1 {f : Nat → Bool} {n i : Nat} (hi : i < 64) (h : f (64 * n + i) = true) : 2 * lN (hwN (wdG f n) (64 - (i + 1))) + 1 = lN (hwN (wdG f n) (64 - i)) := by
  rw [hw_s _ hi, if_pos (show wdG f n i = true from h), show (2 : Int64) = lN 2 from rfl, lN_mul, lN_1]
/-! the signs -/
def txR (v : StR) (t : List Int32) : Prop := v.2.2.2 = nI t.length ∧ t.length ≤ 700 ∧ ∀ k, k < t.length → v.2.2.1 k = t.getD k 0
theorem tr2 {α β : Type} {a b c : α} {d e g : β} (h : a = b ∧ d = e) (k : b = c ∧ e = g) : a = c ∧ d = g := ⟨h.1.trans k.1, h.2.trans k.2⟩
theorem tr_nil (B : Nat → Nat → Bool) (P : Nat → Bool) (f : Nat → Int32) : txR (B, P, f, 0) [] := ⟨rfl, by decide, fun k h => absurd h (by simp)⟩
theorem tr_in {u : StR} {t : List Int32} (ht : txR u t) (h : t.length < 700) : vp_in u.2.2.2 700 := by
  rw [ht.1]
  exact vp_in_nI h (by decide)
theorem tr_ok {u : StR} {t : List Int32} (x : Int32) (ht : txR u t) (h : t.length < 700) : txR (u.1, u.2.1, upd u.2.2.1 u.2.2.2.toNatClampNeg x, u.2.2.2 + 1) (t ++ [x]) := by
  obtain ⟨h1, h2, h3⟩ := ht
  have ec : u.2.2.2.toNatClampNeg = t.length := by rw [h1, nI_clamp (by omega)]
  refine ⟨?_, ?_, fun k hk => ?_⟩
  · show u.2.2.2 + 1 = _
    rw [h1, nI_1, List.length_append]
    rfl
  · rw [List.length_append]
    exact h
  · show upd u.2.2.1 u.2.2.2.toNatClampNeg x k = _
    rw [ec]
    rw [List.length_append, List.length_singleton] at hk
    by_cases hq : k = t.length
    · subst hq
      rw [pk_us]
      simp
    · rw [pk_un hq, h3 k (by omega)]
      simp [List.getElem?_append_left (show k < t.length by omega)]
def fX3_octet (u : StR) (p0 : Int32) : Int32 := if p0 < 0 then -2 else if p0 < u.2.2.2 then u.2.2.1 p0.toNatClampNeg else -2
theorem tr_px {u : StR} {t : List Int32} {p : Int32} (ht : txR u t) (c1 : ¬ p < 0) (c2 : p < u.2.2.2) : vp_in p 700 := by
  obtain ⟨h1, h2, -⟩ := ht
  rw [h1] at c2
  rw [Int32.lt_iff_toInt_lt] at c1 c2
  rw [nI_toInt (by omega)] at c2
  have e0 : (0 : Int32).toInt = 0 := rfl
  rw [vp_in_iff]
  omega
/-! text -/
theorem pe_128 {f : Nat → Bool} {q : Int32} (h : peR f q) (c : q ≤ 128) : ∀ k, 128 ≤ k → k < 4032 → f k = false := by
  obtain ⟨K, h1, rfl, h3, -⟩ := h
  have h4 : K ≤ 128 := (nI_leI (b := 128) (by omega) (by decide)).mp c
  exact fun k a b => h3 k (by omega) b
theorem tx_128 {f : Nat → Bool} {i : Nat} (hend : ∀ k, 128 ≤ k → k < 4032 → f k = false) (hi : i < 4032) (h : f i = true) : i < 128 := by
  rcases Nat.lt_or_ge i 128 with k | k
  · exact k
  · exact (tf_ h (hend i k hi)).elim
def pre2 (t : List Int32) : List Int32 := if t.length ≤ 1 then t else t ++ [44, 32]
theorem wt_s {f : Nat → Bool} {i : Nat} (h : f i = true) : wtL f (i + 1) = pre2 (wtL f i) ++ dgl i := by
  show (if f i = true then _ else _) = _
  rw [if_pos h]
  rfl
theorem wt_n {f : Nat → Bool} {i : Nat} (h : f i = false) : wtL f (i + 1) = wtL f i := by
  show (if f i = true then _ else _) = _
  rw [if_neg (by rw [h]; exact Bool.false_ne_true)]
theorem wt_hi {f : Nat → Bool} (hend : ∀ k, 128 ≤ k → k < 4032 → f k = false) : ∀ n, 128 + n ≤ 4032 → wtL f (128 + n) = wtL f 128 := by
  intro n
  induction n with
  | zero => exact fun _ => rfl
  | succ n ih =>
    intro h
    rw [← Nat.add_assoc, wt_n (hend _ (by omega) (by omega)), ih (by omega)]
theorem wt_b {f : Nat → Bool} {i : Nat} (hend : ∀ k, 128 ≤ k → k < 4032 → f k = false) (hi : i ≤ 4032) : (wtL f i).length ≤ 529 := by
  have key : ∀ j, j ≤ 128 → (wtL f j).length ≤ 529 := by
    intro j hj
    have h1 := (wt_len f j hj).2.2
    have h2 : tlen j ≤ 529 := (show ∀ j, j < 129 → tlen j ≤ 529 by decide +kernel) j (by omega)
    omega
  by_cases h : i ≤ 128
  · exact key i h
  · obtain ⟨n, rfl⟩ : ∃ n, i = 128 + n := ⟨i - 128, by omega⟩
    rw [wt_hi hend n hi]
    exact key 128 (Nat.le_refl _)
theorem wt_rm {f : Nat → Bool} {i : Nat} {t : List Int32} (n : Nat) (hend : ∀ k, 128 ≤ k → k < 4032 → f k = false) (hi : i ≤ 4032) (h : t.length = (wtL f i).length + n) (hn : n ≤ 100) : t.length < 700 := by
  have := wt_b hend hi
  omega
theorem nb44 : vp_nar .byte (44 : Int32).toInt8.toInt32 = 44 ∧ vp_nar .byte (32 : Int32).toInt8.toInt32 = 32 ∧ vp_nar .byte (123 : Int32).toInt8.toInt32 = 123 ∧ vp_nar .byte (125 : Int32).toInt8.toInt32 = 125 := by decide +kernel
theorem nbd : ∀ d, d < 10 → vp_nar .byte (nI (48 + d)).toInt8.toInt32 = nI (48 + d) := by decide +kernel
theorem tx_0 {f : Nat → Bool} {v : StR} (h : txR v ([] ++ [vp_nar .byte (123 : Int32).toInt8.toInt32])) : txR v (wtL f 0) := by
  rw [nb44.2.2.1] at h
  exact h
theorem p2_le {f : Nat → Bool} {i : Nat} (hend : ∀ k, 128 ≤ k → k < 4032 → f k = false) (hi : i ≤ 4032) (c : nI (wtL f i).length ≤ 1) : pre2 (wtL f i) = wtL f i := by
  have h := wt_b hend hi
  exact if_pos ((nI_leI (b := 1) (by omega) (by decide)).mp c)
theorem p2_gt {f : Nat → Bool} {i : Nat} (c : ¬ nI (wtL f i).length ≤ 1) : pre2 (wtL f i) = (wtL f i ++ [vp_nar .byte (44 : Int32).toInt8.toInt32]) ++ [vp_nar .byte (32 : Int32).toInt8.toInt32] := by
  rw [nb44.1, nb44.2.1, List.append_assoc]
  exact if_neg (fun h => c (nI_le (b := 1) h (by decide)))
theorem dl_3 {i : Nat} {t : List Int32} (hi : i < 128) (c : ¬ nI i ≤ 99) : t ++ dgl i = ((t ++ [vp_nar .byte (nI (48 + i / 100 % 10)).toInt8.toInt32]) ++ [vp_nar .byte (nI (48 + i / 10 % 10)).toInt8.toInt32]) ++ [vp_nar .byte (nI (48 + i / 1 % 10)).toInt8.toInt32] := by
  have h : ¬ i ≤ 99 := fun h => c (nI_le (b := 99) h (by decide))
  rw [nbd _ (by omega), nbd _ (by omega), nbd _ (by omega), Nat.div_one, show i / 100 % 10 = i / 100 by omega]
  unfold dgl
  rw [if_neg (show ¬ i < 100 by omega), if_neg (show ¬ i < 10 by omega), List.append_assoc, List.append_assoc, List.append_assoc]
theorem dl_2 {i : Nat} {t : List Int32} (hi : i < 128) (c : nI i ≤ 99) (c2 : ¬ nI i ≤ 9) : t ++ dgl i = (t ++ [vp_nar .byte (nI (48 + i / 10 % 10)).toInt8.toInt32]) ++ [vp_nar .byte (nI (48 + i / 1 % 10)).toInt8.toInt32] := by
  have h : i ≤ 99 := (nI_leI (b := 99) (by omega) (by decide)).mp c
  have h2 : ¬ i ≤ 9 := fun h => c2 (nI_le (b := 9) h (by decide))
  rw [nbd _ (by omega), nbd _ (by omega), Nat.div_one]
  unfold dgl
  rw [if_pos (show i < 100 by omega), if_neg (show ¬ i < 10 by omega), List.nil_append, List.append_assoc]
theorem dl_1 {i : Nat} {t : List Int32} (hi : i < 128) (c : nI i ≤ 99) (c2 : nI i ≤ 9) : t ++ dgl i = t ++ [vp_nar .byte (nI (48 + i / 1 % 10)).toInt8.toInt32] := by
  have h2 : i ≤ 9 := (nI_leI (b := 9) (by omega) (by decide)).mp c2
  rw [nbd _ (by omega), Nat.div_one]
  unfold dgl
  rw [if_pos (show i < 100 by omega), if_pos (show i < 10 by omega), List.nil_append, List.nil_append]
theorem dg_x {i d : Nat} (hi : i < 128) (h0 : 0 < d) (hd : d < 2 ^ 31) : 48 + (nI i / nI d - nI i / nI d / 10 * 10) = nI (48 + i / d % 10) := by
  rw [pk_div (by omega) h0 hd, show nI (i / d) - nI (i / d) / 10 * 10 = nI (i / d % 10) from pk_rem (d := 10) (Nat.lt_of_le_of_lt (Nat.div_le_self _ _) (by omega)) (by decide) (by decide), show (48 : Int32) = nI 48 from rfl, nI_add]
theorem dg_100 {i : Nat} (hi : i < 128) : 48 + (nI i / 100 - nI i / 100 / 10 * 10) = nI (48 + i / 100 % 10) := dg_x (d := 100) hi (by decide) (by decide)
theorem dg_10 {i : Nat} (hi : i < 128) : 48 + (nI i / 10 - nI i / 10 / 10 * 10) = nI (48 + i / 10 % 10) := dg_x (d := 10) hi (by decide) (by decide)
theorem dg_1 {i : Nat} (hi : i < 128) : 48 + (nI i / 1 - nI i / 1 / 10 * 10) = nI (48 + i / 1 % 10) := dg_x (d := 1) hi (by decide) (by decide)
theorem bz_v {v u : StR} {j i : Nat} (h : v.1 = u.1) : bz (v.1 j) i = bz (u.1 j) i := by
  rw [h]
theorem wtT_e {f : Nat → Bool} (hend : ∀ k, 128 ≤ k → k < 4032 → f k = false) : wtT f = wtL f 4032 ++ [vp_nar .byte (125 : Int32).toInt8.toInt32] := by
  rw [nb44.2.2.2, show 4032 = 128 + 3904 from rfl, wt_hi hend 3904 (by decide)]
  rfl
end
section
set_option maxHeartbeats 4000000 in
set_option maxRecDepth 100000 in
theorem c_X3_ones (l : Launch) (dC : Nat → ClassId) (dI : Nat → Nat → Nat) (A : AdR) (u : StR) (p0 : Int32) (hj_p0 : p0.toNatClampNeg < 4) (hin : vp_in p0 4) : gMi l yX3_ones wX3_ones ({ frames := 0, cells := 0, slots := 0, locals := 0 }) (dC, dI) bwCl (tyR A) (wR A) (aR A) [.ref (mh_ A), .int p0] u (fun r v => r = nI (cnt (u.1 p0.toNatClampNeg) 4032) ∧ u = v) := by
  unfold gMi
  intro sz
  refine Met.ofW (cc := cX3_ones) (maxL := 4) (ret := (some .int)) (by decide) rfl ?_
  intro p e s m args below meth c s₁ B hml hv
  obtain ⟨rfl, hsz, hP, hK, hD⟩ := hv
  subst hsz
  have hS : va_S (aR A s.heap.size) s.heap s.heap [] := va_S.rf
  have hx := B.exec
  have hb := B.bytes
  have hr := B.returns
  have hts := atoms_spec (ws := wX3_ones) B.pre
  have hw : ∀ w ∈ tg_, w.before _ s = true := fun w h => hts w (List.mem_cons_of_mem _ h)
  have hown : s.vm.findClass RX3 = some m.cls := findClass_of_methodNamed B.named
  have hlocks := B.notSynchronized
  have hl := lv_entry ([.ref (mh_ A), .int p0]) (n := 4) (Nat.le_of_ble_eq_true rfl)
  rw [lg_entry_eq]
  generalize (lg_sl ([.ref (mh_ A), .int p0]) ++ List.replicate (4 - (lg_sl ([.ref (mh_ A), .int p0])).length) Slot.unset).toArray = ls at hl ⊢
  have hl : lv_has ls 4 [(0, .ref (mh_ A)), (1, .int p0)] := hl
  refine lv_iconst (v := 0) hx hb dX3_ones_0 (by decide) ?_
  refine lv_istore_n (lv' := [(2, .int 0), (0, .ref (mh_ A)), (1, .int p0)]) hx hb dX3_ones_1 rfl hl (by decide) rfl (fun ls hl => ?_)
  refine lv_iconst (v := 0) hx hb dX3_ones_2 (by decide) ?_
  refine lv_istore_n (lv' := [(3, .int 0), (2, .int 0), (0, .ref (mh_ A)), (1, .int p0)]) hx hb dX3_ones_3 rfl hl (by decide) rfl (fun ls hl => ?_)
  have hu_i : u = u := rfl
  refine w_loop (N := 4032) (i0 := 0) (fun i H locs ls => va_P (dC, dI) bwCl (wR A u) H ∧ va_D (aR A s.heap.size) (wR A u) ∧ va_S (aR A s.heap.size) s.heap H locs ∧ lv_has ls 4 [(0, .ref (mh_ A)), (1, .int p0), (2, .int (nI (cnt (u.1 p0.toNatClampNeg) i))), (3, .int (nI i))]) (by decide) ⟨tr_PR hu_i hP, tr_DR hu_i hD, hS, lv_sub hl [2, 3, 1, 0] rfl⟩ ?_
  intro i H locs ls hz_i hi_i hI ih_i
  obtain ⟨hP, hD, hS, hl⟩ := hI
  refine lv_iload_n hx hb dX3_ones_4 rfl (lv_at hl 3 rfl) ?_
  refine lv_sipush (v := 4032) hx hb dX3_ones_5 (by decide) ?_
  refine lv_icmp_ge (tgt := 36) hx hb dX3_ones_8 (by decide) (fun c1 => ?_) (fun c1 => ?_)
  · obtain rfl : i = 4032 := lp_out (n := 4032) rfl hi_i (by decide) c1
    refine lv_iload_n hx hb dX3_ones_36 rfl (lv_at hl 2 rfl) ?_
    exact W.iret hx hb hr (fun t9 ht9 hW => ⟨⟨_, u, rfl, ⟨rfl, rfl⟩, by rw [ht9]; exact hP, va_K.moved hW.alike hK, hD⟩, hS.F ht9⟩) hS.2.2 dX3_ones_37
  · have hlt_i : i < 4032 := lp_in (n := 4032) rfl hi_i c1
    refine lv_iload_n hx hb dX3_ones_11 rfl (lv_at hl 2 rfl) ?_
    refine lv_aload_n hx hb dX3_ones_12 rfl (lv_at hl 0 rfl) ?_
    refine va_get (D := (dC, dI)) (ci := 3) (v := .ref (mq_ A)) (C := RX3) (T := TX3) (N := 4) hx hb hw igX3 hown hK hP 0 rfl rfl 0 (by decide) (hw _ tw_242) (fun _ h9 => h9) rfl dX3_ones_13 ?_
    refine lv_iload_n hx hb dX3_ones_16 rfl (lv_at hl 1 rfl) ?_
    refine va_aldz hx hb hK hP 1 0 rfl rfl hin dX3_ones_17 ?_
    rw [mqF_at A hj_p0]
    refine lv_iload_n hx hb dX3_ones_18 rfl (lv_at hl 3 rfl) ?_
    refine va_zald hx hb hK hP (4 + p0.toNatClampNeg) (3 + p0.toNatClampNeg) (wR_row A u hj_p0) (tyR_row A hj_p0) (vp_in_nI (by omega) (by omega)) dX3_ones_19 ?_
    rw [nI_clamp (n := i) (by omega)]
    refine lv_if_eq (tgt := 27) hx hb dX3_ones_20 (by decide) (fun c2 => ?_) (fun c2 => ?_)
    · have c2 := b1f (b := _) c2
      refine lv_iconst (v := 0) hx hb dX3_ones_27 (by decide) ?_
      refine lv_iadd hx hb dX3_ones_28 ?_
      refine lv_topi (fun z3 ez3 => ?_)
      obtain rfl : z3 = nI (cnt (u.1 p0.toNatClampNeg) (i + 1)) := ez3.trans (cn_0 c2)
      refine lv_istore_n (lv' := [(2, .int (nI (cnt (u.1 p0.toNatClampNeg) (i + 1)))), (0, .ref (mh_ A)), (1, .int p0), (3, .int (nI i))]) hx hb dX3_ones_29 rfl hl (by decide) rfl (fun ls hl => ?_)
      refine lv_iinc (v := nI (i + 1)) (lv' := [(3, .int (nI (i + 1))), (2, .int (nI (cnt (u.1 p0.toNatClampNeg) (i + 1)))), (0, .ref (mh_ A)), (1, .int p0)]) hx hb dX3_ones_30 hl (k := 3) rfl (nI_1 _) (by decide) rfl (fun ls hl => ?_)
      refine lv_goto (tgt := 4) hx hb dX3_ones_33 (by decide) ?_
      have hv_i : u = u := rfl
      exact ih_i _ _ _ (by omega) ⟨tr_PR hv_i hP, tr_DR hv_i hD, hS, lv_sub hl [2, 3, 1, 0] rfl⟩
    · have c2 := b1t (b := _) c2
      refine lv_iconst (v := 1) hx hb dX3_ones_23 (by decide) ?_
      refine lv_goto (tgt := 28) hx hb dX3_ones_24 (by decide) ?_
      refine lv_iadd hx hb dX3_ones_28 ?_
      refine lv_topi (fun z4 ez4 => ?_)
      obtain rfl : z4 = nI (cnt (u.1 p0.toNatClampNeg) (i + 1)) := ez4.trans (cn_1 c2)
      refine lv_istore_n (lv' := [(2, .int (nI (cnt (u.1 p0.toNatClampNeg) (i + 1)))), (0, .ref (mh_ A)), (1, .int p0), (3, .int (nI i))]) hx hb dX3_ones_29 rfl hl (by decide) rfl (fun ls hl => ?_)
      refine lv_iinc (v := nI (i + 1)) (lv' := [(3, .int (nI (i + 1))), (2, .int (nI (cnt (u.1 p0.toNatClampNeg) (i + 1)))), (0, .ref (mh_ A)), (1, .int p0)]) hx hb dX3_ones_30 hl (k := 3) rfl (nI_1 _) (by decide) rfl (fun ls hl => ?_)
      refine lv_goto (tgt := 4) hx hb dX3_ones_33 (by decide) ?_
      have hv_i : u = u := rfl
      exact ih_i _ _ _ (by omega) ⟨tr_PR hv_i hP, tr_DR hv_i hD, hS, lv_sub hl [2, 3, 1, 0] rfl⟩
set_option maxHeartbeats 4000000 in
set_option maxRecDepth 100000 in
theorem c_X3_end (l : Launch) (dC : Nat → ClassId) (dI : Nat → Nat → Nat) (A : AdR) (u : StR) (p0 : Int32) (hj_p0 : p0.toNatClampNeg < 4) (hin : vp_in p0 4) : gMi l yX3_end wX3_end ({ frames := 0, cells := 0, slots := 0, locals := 0 }) (dC, dI) bwCl (tyR A) (wR A) (aR A) [.ref (mh_ A), .int p0] u (fun r v => peR (u.1 p0.toNatClampNeg) r ∧ u = v) := by
  unfold gMi
  intro sz
  refine Met.ofW (cc := cX3_end) (maxL := 3) (ret := (some .int)) (by decide) rfl ?_
  intro p e s m args below meth c s₁ B hml hv
  obtain ⟨rfl, hsz, hP, hK, hD⟩ := hv
  subst hsz
  have hS : va_S (aR A s.heap.size) s.heap s.heap [] := va_S.rf
  have hx := B.exec
  have hb := B.bytes
  have hr := B.returns
  have hts := atoms_spec (ws := wX3_end) B.pre
  have hw : ∀ w ∈ tg_, w.before _ s = true := fun w h => hts w (List.mem_cons_of_mem _ h)
  have hown : s.vm.findClass RX3 = some m.cls := findClass_of_methodNamed B.named
  have hlocks := B.notSynchronized
  have hl := lv_entry ([.ref (mh_ A), .int p0]) (n := 3) (Nat.le_of_ble_eq_true rfl)
  rw [lg_entry_eq]
  generalize (lg_sl ([.ref (mh_ A), .int p0]) ++ List.replicate (3 - (lg_sl ([.ref (mh_ A), .int p0])).length) Slot.unset).toArray = ls at hl ⊢
  have hl : lv_has ls 3 [(0, .ref (mh_ A)), (1, .int p0)] := hl
  refine lv_sipush (v := 4032) hx hb dX3_end_0 (by decide) ?_
  refine lv_istore_n (lv' := [(2, .int 4032), (0, .ref (mh_ A)), (1, .int p0)]) hx hb dX3_end_3 rfl hl (by decide) rfl (fun ls hl => ?_)
  refine w_loopD (N := 4032) (fun i H locs ls => va_P (dC, dI) bwCl (wR A u) H ∧ va_D (aR A s.heap.size) (wR A u) ∧ va_S (aR A s.heap.size) s.heap H locs ∧ lv_has ls 3 [(0, .ref (mh_ A)), (1, .int p0), (2, .int (nI i))] ∧ (∀ k, i ≤ k → k < 4032 → u.1 p0.toNatClampNeg k = false)) ⟨hP, hD, hS, lv_sub hl [1, 2, 0] rfl, fun k h1 h2 => absurd h2 (by omega)⟩ ?_ ?_
  · intro H locs ls hI
    obtain ⟨hP, hD, hS, hl, hF⟩ := hI
    have hl : lv_has ls 3 [(0, .ref (mh_ A)), (1, .int p0), (2, .int (nI 0))] := hl
    refine lv_iload_n hx hb dX3_end_4 rfl (lv_at hl 2 rfl) ?_
    refine lv_if_le (tgt := 27) hx hb dX3_end_5 (by decide) (fun c1 => ?_) (fun c1 => ?_)
    · refine lv_iload_n hx hb dX3_end_27 rfl (lv_at hl 2 rfl) ?_
      exact W.iret hx hb hr (fun t9 ht9 hW => ⟨⟨_, u, rfl, ⟨⟨0, by decide, rfl, hF, fun h => absurd h (by decide)⟩, rfl⟩, by rw [ht9]; exact hP, va_K.moved hW.alike hK, hD⟩, hS.F ht9⟩) hS.2.2 dX3_end_28
    · exact absurd (i_rf _) c1
  · intro i H locs ls hlt hI ih
    obtain ⟨hP, hD, hS, hl, hF⟩ := hI
    have hl : lv_has ls 3 [(0, .ref (mh_ A)), (1, .int p0), (2, .int (nI (i + 1)))] := hl
    refine lv_iload_n hx hb dX3_end_4 rfl (lv_at hl 2 rfl) ?_
    refine lv_if_le (tgt := 27) hx hb dX3_end_5 (by decide) (fun c2 => ?_) (fun c2 => ?_)
    · exact absurd c2 (nI_nle (by omega) (by omega))
    · refine lv_aload_n hx hb dX3_end_8 rfl (lv_at hl 0 rfl) ?_
      refine va_get (D := (dC, dI)) (ci := 3) (v := .ref (mq_ A)) (C := RX3) (T := TX3) (N := 4) hx hb hw igX3 hown hK hP 0 rfl rfl 0 (by decide) (hw _ tw_242) (fun _ h9 => h9) rfl dX3_end_9 ?_
      refine lv_iload_n hx hb dX3_end_12 rfl (lv_at hl 1 rfl) ?_
      refine va_aldz hx hb hK hP 1 0 rfl rfl hin dX3_end_13 ?_
      rw [mqF_at A hj_p0]
      refine lv_iload_n hx hb dX3_end_14 rfl (lv_at hl 2 rfl) ?_
      refine lv_iconst (v := 1) hx hb dX3_end_15 (by decide) ?_
      refine lv_isub hx hb dX3_end_16 ?_
      refine lv_topi (fun z3 ez3 => ?_)
      obtain rfl : z3 = nI i := ez3.trans (nI_pred _)
      refine va_zald hx hb hK hP (4 + p0.toNatClampNeg) (3 + p0.toNatClampNeg) (wR_row A u hj_p0) (tyR_row A hj_p0) (vp_in_nI (by omega) (by omega)) dX3_end_17 ?_
      rw [nI_clamp (n := i) (by omega)]
      refine lv_if_ne (tgt := 27) hx hb dX3_end_18 (by decide) (fun c4 => ?_) (fun c4 => ?_)
      · have c4 := b1t (b := _) c4
        refine lv_iload_n hx hb dX3_end_27 rfl (lv_at hl 2 rfl) ?_
        exact W.iret hx hb hr (fun t9 ht9 hW => ⟨⟨_, u, rfl, ⟨⟨i + 1, by omega, rfl, hF, fun _ => c4⟩, rfl⟩, by rw [ht9]; exact hP, va_K.moved hW.alike hK, hD⟩, hS.F ht9⟩) hS.2.2 dX3_end_28
      · have c4 := b1f (b := _) c4
        refine lv_iinc (v := nI i) (lv' := [(2, .int (nI i)), (0, .ref (mh_ A)), (1, .int p0)]) hx hb dX3_end_21 hl (k := 2) rfl (pk_m1 _) (by decide) rfl (fun ls hl => ?_)
        refine lv_goto (tgt := 4) hx hb dX3_end_24 (by decide) ?_
        exact ih _ _ _ ⟨hP, hD, hS, lv_sub hl [1, 2, 0] rfl, dn_s hF c4⟩
set_option maxHeartbeats 4000000 in
set_option maxRecDepth 100000 in
theorem c_X3_set (l : Launch) (dC : Nat → ClassId) (dI : Nat → Nat → Nat) (A : AdR) (u : StR)  (p0 : Int32) (p1 : Int32) (p2 : Int32) : gMi l yX3_set wX3_set ({ frames := 1, cells := 0, slots := 0, locals := 21 }) (dC, dI) bwCl (tyR A) (wR A) (aR A) [.ref (mh_ A), .int p0, .int p1, .int p2] u (fun r v => ((¬ (fX3_isRow p0) = 0 ∧ ¬ p1 < 0 ∧ ¬ 2 < p1 ∧ ¬ (fX3_isPlace p2) = 0) ∧ (r = bz (u.1 p0.toNatClampNeg) p2.toNatClampNeg ∧ ((upR u.1 p0.toNatClampNeg (upZ (u.1 p0.toNatClampNeg) p2.toNatClampNeg (chZ p1 (u.1 p0.toNatClampNeg p2.toNatClampNeg))), u.2) : StR) = v)) ∨ (¬ (¬ (fX3_isRow p0) = 0 ∧ ¬ p1 < 0 ∧ ¬ 2 < p1 ∧ ¬ (fX3_isPlace p2) = 0) ∧ r = -2 ∧ u = v)) := by
  unfold gMi
  intro sz
  refine Met.ofW (cc := cX3_set) (maxL := 5) (ret := (some .int)) (by decide) rfl ?_
  intro p e s m args below meth c s₁ B hml hv
  obtain ⟨rfl, hsz, hP, hK, hD⟩ := hv
  subst hsz
  have hS : va_S (aR A s.heap.size) s.heap s.heap [] := va_S.rf
  have hx := B.exec
  have hb := B.bytes
  have hr := B.returns
  have hts := atoms_spec (ws := wX3_set) B.pre
  have hw : ∀ w ∈ tg_, w.before _ s = true := fun w h => hts w (List.mem_cons_of_mem _ h)
  have hown : s.vm.findClass RX3 = some m.cls := findClass_of_methodNamed B.named
  have hlocks := B.notSynchronized
  have hl := lv_entry ([.ref (mh_ A), .int p0, .int p1, .int p2]) (n := 5) (Nat.le_of_ble_eq_true rfl)
  rw [lg_entry_eq]
  generalize (lg_sl ([.ref (mh_ A), .int p0, .int p1, .int p2]) ++ List.replicate (5 - (lg_sl ([.ref (mh_ A), .int p0, .int p1, .int p2])).length) Slot.unset).toArray = ls at hl ⊢
  have hl : lv_has ls 5 [(0, .ref (mh_ A)), (1, .int p0), (2, .int p1), (3, .int p2)] := hl
  refine lv_iload_n hx hb dX3_set_0 rfl (lv_at hl 1 rfl) ?_
  refine vp_callSi (W.runS (As := [.int p0]) (rest := []) ⟨hx, hb, hml, hown, hts⟩ (c_X3_isRow l p0) (va_cwS 1 hts (gi_S hbc tw_261 tw_262 tw_4 tw_263) rfl rfl rfl (by decide +kernel) ⟨Nat.le_of_ble_eq_true rfl, Nat.le_of_ble_eq_true rfl⟩) preEq rfl rfl hl.1 rfl (lv_room (Nat.le_of_ble_eq_true rfl)) dX3_set_1 ⟨Nat.le_of_ble_eq_true rfl, Nat.le_of_ble_eq_true rfl⟩) (fun r hq => ?_)
  subst hq
  refine lv_if_eq (tgt := 23) hx hb dX3_set_4 (by decide) (fun c1 => ?_) (fun c1 => ?_)
  · refine lv_bipush (v := -2) hx hb dX3_set_23 (by decide) ?_
    exact W.iret hx hb hr (fun t9 ht9 hW => ⟨⟨_, u, rfl, Or.inr ⟨fun h => h.1 c1, rfl, rfl⟩, by rw [ht9]; exact hP, va_K.moved hW.alike hK, hD⟩, hS.F ht9⟩) hS.2.2 dX3_set_25
  · have hj_p0 := row_lt (p := p0) c1
    refine lv_iload_n hx hb dX3_set_7 rfl (lv_at hl 2 rfl) ?_
    refine lv_if_lt (tgt := 23) hx hb dX3_set_8 (by decide) (fun c2 => ?_) (fun c2 => ?_)
    · refine lv_bipush (v := -2) hx hb dX3_set_23 (by decide) ?_
      exact W.iret hx hb hr (fun t9 ht9 hW => ⟨⟨_, u, rfl, Or.inr ⟨fun h => h.2.1 c2, rfl, rfl⟩, by rw [ht9]; exact hP, va_K.moved hW.alike hK, hD⟩, hS.F ht9⟩) hS.2.2 dX3_set_25
    · refine lv_iload_n hx hb dX3_set_11 rfl (lv_at hl 2 rfl) ?_
      refine lv_iconst (v := 2) hx hb dX3_set_12 (by decide) ?_
      refine lv_icmp_gt (tgt := 23) hx hb dX3_set_13 (by decide) (fun c3 => ?_) (fun c3 => ?_)
      · refine lv_bipush (v := -2) hx hb dX3_set_23 (by decide) ?_
        exact W.iret hx hb hr (fun t9 ht9 hW => ⟨⟨_, u, rfl, Or.inr ⟨fun h => h.2.2.1 c3, rfl, rfl⟩, by rw [ht9]; exact hP, va_K.moved hW.alike hK, hD⟩, hS.F ht9⟩) hS.2.2 dX3_set_25
      · refine lv_iload_n hx hb dX3_set_16 rfl (lv_at hl 3 rfl) ?_
        refine vp_callSi (W.runS (As := [.int p2]) (rest := []) ⟨hx, hb, hml, hown, hts⟩ (c_X3_isPlace l p2) (va_cwS 1 hts (gi_S hbc tw_264 tw_265 tw_4 tw_266) rfl rfl rfl (by decide +kernel) ⟨Nat.le_of_ble_eq_true rfl, Nat.le_of_ble_eq_true rfl⟩) preEq rfl rfl hl.1 rfl (lv_room (Nat.le_of_ble_eq_true rfl)) dX3_set_17 ⟨Nat.le_of_ble_eq_true rfl, Nat.le_of_ble_eq_true rfl⟩) (fun r hq => ?_)
        subst hq
        refine lv_if_ne (tgt := 26) hx hb dX3_set_20 (by decide) (fun c4 => ?_) (fun c4 => ?_)
        · refine lv_aload_n hx hb dX3_set_26 rfl (lv_at hl 0 rfl) ?_
          refine va_get (D := (dC, dI)) (ci := 3) (v := .ref (mq_ A)) (C := RX3) (T := TX3) (N := 4) hx hb hw igX3 hown hK hP 0 rfl rfl 0 (by decide) (hw _ tw_242) (fun _ h9 => h9) rfl dX3_set_27 ?_
          refine lv_iload_n hx hb dX3_set_30 rfl (lv_at hl 1 rfl) ?_
          refine va_aldz hx hb hK hP 1 0 rfl rfl (row_in (p := p0) c1) dX3_set_31 ?_
          rw [mqF_at A hj_p0]
          refine lv_iload_n hx hb dX3_set_32 rfl (lv_at hl 3 rfl) ?_
          refine va_zald hx hb hK hP (4 + p0.toNatClampNeg) (3 + p0.toNatClampNeg) (wR_row A u hj_p0) (tyR_row A hj_p0) (pl_4032 c4) dX3_set_33 ?_
          refine lv_istore (lv' := [(4, .int (bz (u.1 p0.toNatClampNeg) p2.toNatClampNeg)), (0, .ref (mh_ A)), (1, .int p0), (2, .int p1), (3, .int p2)]) hx hb dX3_set_34 hl (by decide) rfl (fun ls hl => ?_)
          refine lv_aload_n hx hb dX3_set_36 rfl (lv_at hl 1 rfl) ?_
          refine va_get (D := (dC, dI)) (ci := 3) (v := .ref (mq_ A)) (C := RX3) (T := TX3) (N := 4) hx hb hw igX3 hown hK hP 0 rfl rfl 0 (by decide) (hw _ tw_242) (fun _ h9 => h9) rfl dX3_set_37 ?_
          refine lv_iload_n hx hb dX3_set_40 rfl (lv_at hl 2 rfl) ?_
          refine va_aldz hx hb hK hP 1 0 rfl rfl (row_in (p := p0) c1) dX3_set_41 ?_
          rw [mqF_at A hj_p0]
          refine lv_iload_n hx hb dX3_set_42 rfl (lv_at hl 4 rfl) ?_
          refine lv_iload hx hb dX3_set_43 (lv_at hl 0 rfl) ?_
          refine lv_iload_n hx hb dX3_set_45 rfl (lv_at hl 3 rfl) ?_
          refine vp_callSi (W.runS (As := [.int (bz (u.1 p0.toNatClampNeg) p2.toNatClampNeg), .int p1]) (rest := [.int p2, .ref (mr_ A p0.toNatClampNeg)]) ⟨hx, hb, hml, hown, hts⟩ (c_X3_changed l (bz (u.1 p0.toNatClampNeg) p2.toNatClampNeg) p1) (va_cwS 2 hts (gi_S hbc tw_267 tw_268 tw_4 tw_269) rfl rfl rfl (by decide +kernel) ⟨Nat.le_of_ble_eq_true rfl, Nat.le_of_ble_eq_true rfl⟩) preEq rfl rfl hl.1 rfl (lv_room (Nat.le_of_ble_eq_true rfl)) dX3_set_46 ⟨Nat.le_of_ble_eq_true rfl, Nat.le_of_ble_eq_true rfl⟩) (fun r hq => ?_)
          subst hq
          refine va_zast hx hb hK hP hD hS (4 + p0.toNatClampNeg) (3 + p0.toNatClampNeg) (wR_row A u hj_p0) (tyR_row A hj_p0) (pl_4032 c4) dX3_set_49 (fun H locs hP hD hS => ?_)
          have hP : va_P (dC, dI) bwCl (wR A (upR u.1 p0.toNatClampNeg (upZ (u.1 p0.toNatClampNeg) p2.toNatClampNeg (chZ p1 ((u.1 p0.toNatClampNeg) p2.toNatClampNeg))), u.2)) H := stR_P (ch_z _ _) hj_p0 hP
          have hD : va_D (aR A s.heap.size) (wR A (upR u.1 p0.toNatClampNeg (upZ (u.1 p0.toNatClampNeg) p2.toNatClampNeg (chZ p1 ((u.1 p0.toNatClampNeg) p2.toNatClampNeg))), u.2)) := stR_D (ch_z _ _) hj_p0 hD
          refine lv_iload hx hb dX3_set_50 (lv_at hl 0 rfl) ?_
          refine lv_if_eq (tgt := 59) hx hb dX3_set_52 (by decide) (fun c5 => ?_) (fun c5 => ?_)
          · have c5 := b1f (b := _) c5
            refine lv_iconst (v := 0) hx hb dX3_set_59 (by decide) ?_
            exact W.iret hx hb hr (fun t9 ht9 hW => ⟨⟨_, (upR u.1 p0.toNatClampNeg (upZ (u.1 p0.toNatClampNeg) p2.toNatClampNeg (chZ p1 ((u.1 p0.toNatClampNeg) p2.toNatClampNeg))), u.2), rfl, Or.inl ⟨⟨c1, c2, c3, c4⟩, ⟨z_lit0 c5, rfl⟩⟩, by rw [ht9]; exact hP, va_K.moved hW.alike hK, hD⟩, hS.F ht9⟩) hS.2.2 dX3_set_60
          · have c5 := b1t (b := _) c5
            refine lv_iconst (v := 1) hx hb dX3_set_55 (by decide) ?_
            refine lv_goto (tgt := 60) hx hb dX3_set_56 (by decide) ?_
            exact W.iret hx hb hr (fun t9 ht9 hW => ⟨⟨_, (upR u.1 p0.toNatClampNeg (upZ (u.1 p0.toNatClampNeg) p2.toNatClampNeg (chZ p1 ((u.1 p0.toNatClampNeg) p2.toNatClampNeg))), u.2), rfl, Or.inl ⟨⟨c1, c2, c3, c4⟩, ⟨z_lit1 c5, rfl⟩⟩, by rw [ht9]; exact hP, va_K.moved hW.alike hK, hD⟩, hS.F ht9⟩) hS.2.2 dX3_set_60
        · refine lv_bipush (v := -2) hx hb dX3_set_23 (by decide) ?_
          exact W.iret hx hb hr (fun t9 ht9 hW => ⟨⟨_, u, rfl, Or.inr ⟨fun h => h.2.2.2 c4, rfl, rfl⟩, by rw [ht9]; exact hP, va_K.moved hW.alike hK, hD⟩, hS.F ht9⟩) hS.2.2 dX3_set_25
set_option maxHeartbeats 4000000 in
set_option maxRecDepth 100000 in
theorem c_X3_get (l : Launch) (dC : Nat → ClassId) (dI : Nat → Nat → Nat) (A : AdR) (u : StR)  (p0 : Int32) (p1 : Int32) : gMi l yX3_get wX3_get ({ frames := 1, cells := 0, slots := 0, locals := 20 }) (dC, dI) bwCl (tyR A) (wR A) (aR A) [.ref (mh_ A), .int p0, .int p1] u (fun r v => ((¬ (fX3_isRow p0) = 0 ∧ ¬ (fX3_isPlace p1) = 0) ∧ (r = bz (u.1 p0.toNatClampNeg) p1.toNatClampNeg ∧ u = v)) ∨ (¬ (¬ (fX3_isRow p0) = 0 ∧ ¬ (fX3_isPlace p1) = 0) ∧ r = -2 ∧ u = v)) := by
  unfold gMi
  intro sz
  refine Met.ofW (cc := cX3_get) (maxL := 3) (ret := (some .int)) (by decide) rfl ?_
  intro p e s m args below meth c s₁ B hml hv
  obtain ⟨rfl, hsz, hP, hK, hD⟩ := hv
  subst hsz
  have hS : va_S (aR A s.heap.size) s.heap s.heap [] := va_S.rf
  have hx := B.exec
  have hb := B.bytes
  have hr := B.returns
  have hts := atoms_spec (ws := wX3_get) B.pre
  have hw : ∀ w ∈ tg_, w.before _ s = true := fun w h => hts w (List.mem_cons_of_mem _ h)
  have hown : s.vm.findClass RX3 = some m.cls := findClass_of_methodNamed B.named
  have hlocks := B.notSynchronized
  have hl := lv_entry ([.ref (mh_ A), .int p0, .int p1]) (n := 3) (Nat.le_of_ble_eq_true rfl)
  rw [lg_entry_eq]
  generalize (lg_sl ([.ref (mh_ A), .int p0, .int p1]) ++ List.replicate (3 - (lg_sl ([.ref (mh_ A), .int p0, .int p1])).length) Slot.unset).toArray = ls at hl ⊢
  have hl : lv_has ls 3 [(0, .ref (mh_ A)), (1, .int p0), (2, .int p1)] := hl
  refine lv_iload_n hx hb dX3_get_0 rfl (lv_at hl 1 rfl) ?_
  refine vp_callSi (W.runS (As := [.int p0]) (rest := []) ⟨hx, hb, hml, hown, hts⟩ (c_X3_isRow l p0) (va_cwS 1 hts (gi_S hbc tw_261 tw_262 tw_4 tw_263) rfl rfl rfl (by decide +kernel) ⟨Nat.le_of_ble_eq_true rfl, Nat.le_of_ble_eq_true rfl⟩) preEq rfl rfl hl.1 rfl (lv_room (Nat.le_of_ble_eq_true rfl)) dX3_get_1 ⟨Nat.le_of_ble_eq_true rfl, Nat.le_of_ble_eq_true rfl⟩) (fun r hq => ?_)
  subst hq
  refine lv_if_eq (tgt := 14) hx hb dX3_get_4 (by decide) (fun c1 => ?_) (fun c1 => ?_)
  · refine lv_bipush (v := -2) hx hb dX3_get_14 (by decide) ?_
    refine lv_goto (tgt := 35) hx hb dX3_get_16 (by decide) ?_
    exact W.iret hx hb hr (fun t9 ht9 hW => ⟨⟨_, u, rfl, Or.inr ⟨fun h => h.1 c1, rfl, rfl⟩, by rw [ht9]; exact hP, va_K.moved hW.alike hK, hD⟩, hS.F ht9⟩) hS.2.2 dX3_get_35
  · have hj_p0 := row_lt (p := p0) c1
    refine lv_iload_n hx hb dX3_get_7 rfl (lv_at hl 2 rfl) ?_
    refine vp_callSi (W.runS (As := [.int p1]) (rest := []) ⟨hx, hb, hml, hown, hts⟩ (c_X3_isPlace l p1) (va_cwS 1 hts (gi_S hbc tw_264 tw_265 tw_4 tw_266) rfl rfl rfl (by decide +kernel) ⟨Nat.le_of_ble_eq_true rfl, Nat.le_of_ble_eq_true rfl⟩) preEq rfl rfl hl.1 rfl (lv_room (Nat.le_of_ble_eq_true rfl)) dX3_get_8 ⟨Nat.le_of_ble_eq_true rfl, Nat.le_of_ble_eq_true rfl⟩) (fun r hq => ?_)
    subst hq
    refine lv_if_ne (tgt := 19) hx hb dX3_get_11 (by decide) (fun c2 => ?_) (fun c2 => ?_)
    · refine lv_aload_n hx hb dX3_get_19 rfl (lv_at hl 0 rfl) ?_
      refine va_get (D := (dC, dI)) (ci := 3) (v := .ref (mq_ A)) (C := RX3) (T := TX3) (N := 4) hx hb hw igX3 hown hK hP 0 rfl rfl 0 (by decide) (hw _ tw_242) (fun _ h9 => h9) rfl dX3_get_20 ?_
      refine lv_iload_n hx hb dX3_get_23 rfl (lv_at hl 1 rfl) ?_
      refine va_aldz hx hb hK hP 1 0 rfl rfl (row_in (p := p0) c1) dX3_get_24 ?_
      rw [mqF_at A hj_p0]
      refine lv_iload_n hx hb dX3_get_25 rfl (lv_at hl 2 rfl) ?_
      refine va_zald hx hb hK hP (4 + p0.toNatClampNeg) (3 + p0.toNatClampNeg) (wR_row A u hj_p0) (tyR_row A hj_p0) (pl_4032 c2) dX3_get_26 ?_
      refine lv_if_eq (tgt := 34) hx hb dX3_get_27 (by decide) (fun c3 => ?_) (fun c3 => ?_)
      · have c3 := b1f (b := _) c3
        refine lv_iconst (v := 0) hx hb dX3_get_34 (by decide) ?_
        exact W.iret hx hb hr (fun t9 ht9 hW => ⟨⟨_, u, rfl, Or.inl ⟨⟨c1, c2⟩, ⟨z_lit0 c3, rfl⟩⟩, by rw [ht9]; exact hP, va_K.moved hW.alike hK, hD⟩, hS.F ht9⟩) hS.2.2 dX3_get_35
      · have c3 := b1t (b := _) c3
        refine lv_iconst (v := 1) hx hb dX3_get_30 (by decide) ?_
        refine lv_goto (tgt := 35) hx hb dX3_get_31 (by decide) ?_
        exact W.iret hx hb hr (fun t9 ht9 hW => ⟨⟨_, u, rfl, Or.inl ⟨⟨c1, c2⟩, ⟨z_lit1 c3, rfl⟩⟩, by rw [ht9]; exact hP, va_K.moved hW.alike hK, hD⟩, hS.F ht9⟩) hS.2.2 dX3_get_35
    · refine lv_bipush (v := -2) hx hb dX3_get_14 (by decide) ?_
      refine lv_goto (tgt := 35) hx hb dX3_get_16 (by decide) ?_
      exact W.iret hx hb hr (fun t9 ht9 hW => ⟨⟨_, u, rfl, Or.inr ⟨fun h => h.2 c2, rfl, rfl⟩, by rw [ht9]; exact hP, va_K.moved hW.alike hK, hD⟩, hS.F ht9⟩) hS.2.2 dX3_get_35
set_option maxHeartbeats 4000000 in
set_option maxRecDepth 100000 in
theorem c_X3_piece (l : Launch) (dC : Nat → ClassId) (dI : Nat → Nat → Nat) (A : AdR) (u : StR)  (p0 : Int32) (p1 : Int32) (p2 : Int32) (p3 : Int32) : gMi l yX3_piece wX3_piece ({ frames := 1, cells := 0, slots := 0, locals := 23 }) (dC, dI) bwCl (tyR A) (wR A) (aR A) [.ref (mh_ A), .int p0, .int p1, .int p2, .int p3] u (fun r v => ((¬ (fX3_isRow p0) = 0 ∧ ¬ p1 < 0 ∧ ¬ 2 < p1 ∧ ¬ (fX3_isPiece p2 p3) = 0) ∧ (r = nI (cnt (((upR u.1 p0.toNatClampNeg (flz (pcZ (u.1 p0.toNatClampNeg) p1) (u.1 p0.toNatClampNeg) p2.toNatClampNeg p3.toNatClampNeg), u.2) : StR).1 p0.toNatClampNeg) 4032) ∧ ((upR u.1 p0.toNatClampNeg (flz (pcZ (u.1 p0.toNatClampNeg) p1) (u.1 p0.toNatClampNeg) p2.toNatClampNeg p3.toNatClampNeg), u.2) : StR) = v)) ∨ (¬ (¬ (fX3_isRow p0) = 0 ∧ ¬ p1 < 0 ∧ ¬ 2 < p1 ∧ ¬ (fX3_isPiece p2 p3) = 0) ∧ r = -2 ∧ u = v)) := by
  unfold gMi
  intro sz
  refine Met.ofW (cc := cX3_piece) (maxL := 6) (ret := (some .int)) (by decide) rfl ?_
  intro p e s m args below meth c s₁ B hml hv
  obtain ⟨rfl, hsz, hP, hK, hD⟩ := hv
  subst hsz
  have hS : va_S (aR A s.heap.size) s.heap s.heap [] := va_S.rf
  have hx := B.exec
  have hb := B.bytes
  have hr := B.returns
  have hts := atoms_spec (ws := wX3_piece) B.pre
  have hw : ∀ w ∈ tg_, w.before _ s = true := fun w h => hts w (List.mem_cons_of_mem _ h)
  have hown : s.vm.findClass RX3 = some m.cls := findClass_of_methodNamed B.named
  have hlocks := B.notSynchronized
  have hl := lv_entry ([.ref (mh_ A), .int p0, .int p1, .int p2, .int p3]) (n := 6) (Nat.le_of_ble_eq_true rfl)
  rw [lg_entry_eq]
  generalize (lg_sl ([.ref (mh_ A), .int p0, .int p1, .int p2, .int p3]) ++ List.replicate (6 - (lg_sl ([.ref (mh_ A), .int p0, .int p1, .int p2, .int p3])).length) Slot.unset).toArray = ls at hl ⊢
  have hl : lv_has ls 6 [(0, .ref (mh_ A)), (1, .int p0), (2, .int p1), (3, .int p2), (4, .int p3)] := hl
  refine lv_iload_n hx hb dX3_piece_0 rfl (lv_at hl 1 rfl) ?_
  refine vp_callSi (W.runS (As := [.int p0]) (rest := []) ⟨hx, hb, hml, hown, hts⟩ (c_X3_isRow l p0) (va_cwS 1 hts (gi_S hbc tw_261 tw_262 tw_4 tw_263) rfl rfl rfl (by decide +kernel) ⟨Nat.le_of_ble_eq_true rfl, Nat.le_of_ble_eq_true rfl⟩) preEq rfl rfl hl.1 rfl (lv_room (Nat.le_of_ble_eq_true rfl)) dX3_piece_1 ⟨Nat.le_of_ble_eq_true rfl, Nat.le_of_ble_eq_true rfl⟩) (fun r hq => ?_)
  subst hq
  refine lv_if_eq (tgt := 25) hx hb dX3_piece_4 (by decide) (fun c1 => ?_) (fun c1 => ?_)
  · refine lv_bipush (v := -2) hx hb dX3_piece_25 (by decide) ?_
    exact W.iret hx hb hr (fun t9 ht9 hW => ⟨⟨_, u, rfl, Or.inr ⟨fun h => h.1 c1, rfl, rfl⟩, by rw [ht9]; exact hP, va_K.moved hW.alike hK, hD⟩, hS.F ht9⟩) hS.2.2 dX3_piece_27
  · have hj_p0 := row_lt (p := p0) c1
    refine lv_iload_n hx hb dX3_piece_7 rfl (lv_at hl 2 rfl) ?_
    refine lv_if_lt (tgt := 25) hx hb dX3_piece_8 (by decide) (fun c2 => ?_) (fun c2 => ?_)
    · refine lv_bipush (v := -2) hx hb dX3_piece_25 (by decide) ?_
      exact W.iret hx hb hr (fun t9 ht9 hW => ⟨⟨_, u, rfl, Or.inr ⟨fun h => h.2.1 c2, rfl, rfl⟩, by rw [ht9]; exact hP, va_K.moved hW.alike hK, hD⟩, hS.F ht9⟩) hS.2.2 dX3_piece_27
    · refine lv_iload_n hx hb dX3_piece_11 rfl (lv_at hl 2 rfl) ?_
      refine lv_iconst (v := 2) hx hb dX3_piece_12 (by decide) ?_
      refine lv_icmp_gt (tgt := 25) hx hb dX3_piece_13 (by decide) (fun c3 => ?_) (fun c3 => ?_)
      · refine lv_bipush (v := -2) hx hb dX3_piece_25 (by decide) ?_
        exact W.iret hx hb hr (fun t9 ht9 hW => ⟨⟨_, u, rfl, Or.inr ⟨fun h => h.2.2.1 c3, rfl, rfl⟩, by rw [ht9]; exact hP, va_K.moved hW.alike hK, hD⟩, hS.F ht9⟩) hS.2.2 dX3_piece_27
      · refine lv_iload_n hx hb dX3_piece_16 rfl (lv_at hl 3 rfl) ?_
        refine lv_iload hx hb dX3_piece_17 (lv_at hl 4 rfl) ?_
        refine vp_callSi (W.runS (As := [.int p2, .int p3]) (rest := []) ⟨hx, hb, hml, hown, hts⟩ (c_X3_isPiece l p2 p3) (va_cwS 2 hts (gi_S hbc tw_274 tw_275 tw_4 tw_276) rfl rfl rfl (by decide +kernel) ⟨Nat.le_of_ble_eq_true rfl, Nat.le_of_ble_eq_true rfl⟩) preEq rfl rfl hl.1 rfl (lv_room (Nat.le_of_ble_eq_true rfl)) dX3_piece_19 ⟨Nat.le_of_ble_eq_true rfl, Nat.le_of_ble_eq_true rfl⟩) (fun r hq => ?_)
        subst hq
        refine lv_if_ne (tgt := 28) hx hb dX3_piece_22 (by decide) (fun c4 => ?_) (fun c4 => ?_)
        · have hpc := pc_ab c4
          refine lv_iload_n hx hb dX3_piece_28 rfl (lv_at hl 3 rfl) ?_
          refine lv_topi (fun z5 ez5 => ?_)
          obtain rfl : z5 = nI p2.toNatClampNeg := ez5.trans hpc.2.2.1
          refine lv_istore (lv' := [(5, .int (nI p2.toNatClampNeg)), (0, .ref (mh_ A)), (1, .int p0), (2, .int p1), (3, .int p2), (4, .int p3)]) hx hb dX3_piece_29 hl (by decide) rfl (fun ls hl => ?_)
          have hu_i : u = (upR u.1 p0.toNatClampNeg (flz (pcZ (u.1 p0.toNatClampNeg) p1) (u.1 p0.toNatClampNeg) p2.toNatClampNeg p2.toNatClampNeg), u.2) := fz_u0 _ u _ _
          refine w_loop (N := p3.toNatClampNeg) (i0 := p2.toNatClampNeg) (fun i H locs ls => va_P (dC, dI) bwCl (wR A (upR u.1 p0.toNatClampNeg (flz (pcZ (u.1 p0.toNatClampNeg) p1) (u.1 p0.toNatClampNeg) p2.toNatClampNeg i), u.2)) H ∧ va_D (aR A s.heap.size) (wR A (upR u.1 p0.toNatClampNeg (flz (pcZ (u.1 p0.toNatClampNeg) p1) (u.1 p0.toNatClampNeg) p2.toNatClampNeg i), u.2)) ∧ va_S (aR A s.heap.size) s.heap H locs ∧ lv_has ls 6 [(0, .ref (mh_ A)), (1, .int p0), (2, .int p1), (3, .int p2), (4, .int p3), (5, .int (nI i))]) hpc.1 ⟨tr_PR hu_i hP, tr_DR hu_i hD, hS, lv_sub hl [1, 2, 3, 4, 5, 0] rfl⟩ ?_
          intro i H locs ls hz_i hi_i hI ih_i
          obtain ⟨hP, hD, hS, hl⟩ := hI
          refine lv_iload hx hb dX3_piece_31 (lv_at hl 5 rfl) ?_
          refine lv_iload hx hb dX3_piece_33 (lv_at hl 4 rfl) ?_
          refine lv_icmp_ge (tgt := 66) hx hb dX3_piece_35 (by decide) (fun c6 => ?_) (fun c6 => ?_)
          · obtain rfl : i = p3.toNatClampNeg := lp_out hpc.2.2.2 hi_i (by omega) c6
            refine lv_aload_n hx hb dX3_piece_66 rfl (lv_at hl 0 rfl) ?_
            refine lv_iload_n hx hb dX3_piece_67 rfl (lv_at hl 1 rfl) ?_
            refine gVi (As := [.int p0]) (rest := []) ⟨hx, hb, hml, hown, hts⟩ (c_X3_ones l dC dI A (upR u.1 p0.toNatClampNeg (flz (pcZ (u.1 p0.toNatClampNeg) p1) (u.1 p0.toNatClampNeg) p2.toNatClampNeg (p3.toNatClampNeg)), u.2) p0 hj_p0 (row_in (p := p0) c1)) (cwV 1 hts (gi_V hbc tw_277 tw_279 ts_4 tw_4 tw_280) rfl rfl rfl (by decide +kernel) ⟨Nat.le_of_ble_eq_true rfl, Nat.le_of_ble_eq_true rfl⟩) (va_recv hK hP (ci := 3) (q0 := 0) rfl rfl) aR_mono aR_D hP hK hD hS rfl hl.1 rfl (Nat.le_of_ble_eq_true rfl) dX3_piece_68 ⟨Nat.le_of_ble_eq_true rfl, Nat.le_of_ble_eq_true rfl⟩ (fun r7 v9 H locs hq8 hP hD hS => ?_)
            obtain ⟨rfl, rfl⟩ := hq8
            exact W.iret hx hb hr (fun t9 ht9 hW => ⟨⟨_, (upR u.1 p0.toNatClampNeg (flz (pcZ (u.1 p0.toNatClampNeg) p1) (u.1 p0.toNatClampNeg) p2.toNatClampNeg (p3.toNatClampNeg)), u.2), rfl, Or.inl ⟨⟨c1, c2, c3, c4⟩, ⟨rfl, rfl⟩⟩, by rw [ht9]; exact hP, va_K.moved hW.alike hK, hD⟩, hS.F ht9⟩) hS.2.2 dX3_piece_71
          · have hlt_i : i < p3.toNatClampNeg := lp_in hpc.2.2.2 hi_i c6
            refine lv_aload_n hx hb dX3_piece_38 rfl (lv_at hl 0 rfl) ?_
            refine va_get (D := (dC, dI)) (ci := 3) (v := .ref (mq_ A)) (C := RX3) (T := TX3) (N := 4) hx hb hw igX3 hown hK hP 0 rfl rfl 0 (by decide) (hw _ tw_242) (fun _ h9 => h9) rfl dX3_piece_39 ?_
            refine lv_iload_n hx hb dX3_piece_42 rfl (lv_at hl 1 rfl) ?_
            refine va_aldz hx hb hK hP 1 0 rfl rfl (row_in (p := p0) c1) dX3_piece_43 ?_
            rw [mqF_at A hj_p0]
            refine lv_iload hx hb dX3_piece_44 (lv_at hl 5 rfl) ?_
            refine lv_aload_n hx hb dX3_piece_46 rfl (lv_at hl 0 rfl) ?_
            refine va_get (D := (dC, dI)) (ci := 3) (v := .ref (mq_ A)) (C := RX3) (T := TX3) (N := 4) hx hb hw igX3 hown hK hP 0 rfl rfl 0 (by decide) (hw _ tw_242) (fun _ h9 => h9) rfl dX3_piece_47 ?_
            refine lv_iload_n hx hb dX3_piece_50 rfl (lv_at hl 1 rfl) ?_
            refine va_aldz hx hb hK hP 1 0 rfl rfl (row_in (p := p0) c1) dX3_piece_51 ?_
            rw [mqF_at A hj_p0]
            refine lv_iload hx hb dX3_piece_52 (lv_at hl 5 rfl) ?_
            refine va_zald hx hb hK hP (4 + p0.toNatClampNeg) (3 + p0.toNatClampNeg) (wR_row A (upR u.1 p0.toNatClampNeg (flz (pcZ (u.1 p0.toNatClampNeg) p1) (u.1 p0.toNatClampNeg) p2.toNatClampNeg i), u.2) hj_p0) (tyR_row A hj_p0) (vp_in_nI (by omega) (by omega)) dX3_piece_54 ?_
            rw [nI_clamp (n := i) (by omega)]
            refine lv_topi (fun z10 ez10 => ?_)
            obtain rfl : z10 = bz (u.1 p0.toNatClampNeg) i := ez10.trans (fz_rd _ u.1 p0.toNatClampNeg p0.toNatClampNeg p2.toNatClampNeg (Nat.le_refl i))
            refine lv_iload_n hx hb dX3_piece_55 rfl (lv_at hl 2 rfl) ?_
            refine vp_callSi (W.runS (As := [.int (bz (u.1 p0.toNatClampNeg) i), .int p1]) (rest := [.int (nI i), .ref (mr_ A p0.toNatClampNeg)]) ⟨hx, hb, hml, hown, hts⟩ (c_X3_changed l (bz (u.1 p0.toNatClampNeg) i) p1) (va_cwS 2 hts (gi_S hbc tw_267 tw_268 tw_4 tw_269) rfl rfl rfl (by decide +kernel) ⟨Nat.le_of_ble_eq_true rfl, Nat.le_of_ble_eq_true rfl⟩) preEq rfl rfl hl.1 rfl (lv_room (Nat.le_of_ble_eq_true rfl)) dX3_piece_56 ⟨Nat.le_of_ble_eq_true rfl, Nat.le_of_ble_eq_true rfl⟩) (fun r hq => ?_)
            subst hq
            refine va_zast hx hb hK hP hD hS (4 + p0.toNatClampNeg) (3 + p0.toNatClampNeg) (wR_row A (upR u.1 p0.toNatClampNeg (flz (pcZ (u.1 p0.toNatClampNeg) p1) (u.1 p0.toNatClampNeg) p2.toNatClampNeg i), u.2) hj_p0) (tyR_row A hj_p0) (vp_in_nI (by omega) (by omega)) dX3_piece_59 (fun H locs hP hD hS => ?_)
            rw [nI_clamp (n := i) (by omega)] at hP hD
            have hP : va_P (dC, dI) bwCl (wR A (upR (upR u.1 p0.toNatClampNeg (flz (pcZ (u.1 p0.toNatClampNeg) p1) (u.1 p0.toNatClampNeg) p2.toNatClampNeg i), u.2).1 p0.toNatClampNeg (upZ ((upR u.1 p0.toNatClampNeg (flz (pcZ (u.1 p0.toNatClampNeg) p1) (u.1 p0.toNatClampNeg) p2.toNatClampNeg i), u.2).1 p0.toNatClampNeg) i (chZ p1 ((u.1 p0.toNatClampNeg) i))), (upR u.1 p0.toNatClampNeg (flz (pcZ (u.1 p0.toNatClampNeg) p1) (u.1 p0.toNatClampNeg) p2.toNatClampNeg i), u.2).2)) H := stR_P (ch_z _ _) hj_p0 hP
            have hD : va_D (aR A s.heap.size) (wR A (upR (upR u.1 p0.toNatClampNeg (flz (pcZ (u.1 p0.toNatClampNeg) p1) (u.1 p0.toNatClampNeg) p2.toNatClampNeg i), u.2).1 p0.toNatClampNeg (upZ ((upR u.1 p0.toNatClampNeg (flz (pcZ (u.1 p0.toNatClampNeg) p1) (u.1 p0.toNatClampNeg) p2.toNatClampNeg i), u.2).1 p0.toNatClampNeg) i (chZ p1 ((u.1 p0.toNatClampNeg) i))), (upR u.1 p0.toNatClampNeg (flz (pcZ (u.1 p0.toNatClampNeg) p1) (u.1 p0.toNatClampNeg) p2.toNatClampNeg i), u.2).2)) := stR_D (ch_z _ _) hj_p0 hD
            refine lv_iinc (v := nI (i + 1)) (lv' := [(5, .int (nI (i + 1))), (0, .ref (mh_ A)), (1, .int p0), (2, .int p1), (3, .int p2), (4, .int p3)]) hx hb dX3_piece_60 hl (k := 5) rfl (nI_1 _) (by decide) rfl (fun ls hl => ?_)
            refine lv_goto (tgt := 31) hx hb dX3_piece_63 (by decide) ?_
            have hv_i : (upR (upR u.1 p0.toNatClampNeg (flz (pcZ (u.1 p0.toNatClampNeg) p1) (u.1 p0.toNatClampNeg) p2.toNatClampNeg i), u.2).1 p0.toNatClampNeg (upZ ((upR u.1 p0.toNatClampNeg (flz (pcZ (u.1 p0.toNatClampNeg) p1) (u.1 p0.toNatClampNeg) p2.toNatClampNeg i), u.2).1 p0.toNatClampNeg) i (chZ p1 ((u.1 p0.toNatClampNeg) i))), (upR u.1 p0.toNatClampNeg (flz (pcZ (u.1 p0.toNatClampNeg) p1) (u.1 p0.toNatClampNeg) p2.toNatClampNeg i), u.2).2) = (upR u.1 p0.toNatClampNeg (flz (pcZ (u.1 p0.toNatClampNeg) p1) (u.1 p0.toNatClampNeg) p2.toNatClampNeg (i + 1)), u.2) := fz_uS _ u _ hz_i rfl
            exact ih_i _ _ _ (by omega) ⟨tr_PR hv_i hP, tr_DR hv_i hD, hS, lv_sub hl [1, 2, 3, 4, 5, 0] rfl⟩
        · refine lv_bipush (v := -2) hx hb dX3_piece_25 (by decide) ?_
          exact W.iret hx hb hr (fun t9 ht9 hW => ⟨⟨_, u, rfl, Or.inr ⟨fun h => h.2.2.2 c4, rfl, rfl⟩, by rw [ht9]; exact hP, va_K.moved hW.alike hK, hD⟩, hS.F ht9⟩) hS.2.2 dX3_piece_27
set_option maxHeartbeats 4000000 in
set_option maxRecDepth 100000 in
theorem c_X3_join (l : Launch) (dC : Nat → ClassId) (dI : Nat → Nat → Nat) (A : AdR) (u : StR)  (p0 : Int32) (p1 : Int32) (p2 : Int32) : gMi l yX3_join wX3_join ({ frames := 1, cells := 0, slots := 0, locals := 23 }) (dC, dI) bwCl (tyR A) (wR A) (aR A) [.ref (mh_ A), .int p0, .int p1, .int p2] u (fun r v => ((¬ (fX3_isRow p0) = 0 ∧ ¬ p1 < 0 ∧ ¬ 3 < p1 ∧ ¬ (fX3_isRow p2) = 0) ∧ (r = nI (cnt (((upR u.1 p0.toNatClampNeg (flz (cbZ (u.1 p0.toNatClampNeg) (u.1 p2.toNatClampNeg) p1) (u.1 p0.toNatClampNeg) 0 4032), u.2) : StR).1 p0.toNatClampNeg) 4032) ∧ ((upR u.1 p0.toNatClampNeg (flz (cbZ (u.1 p0.toNatClampNeg) (u.1 p2.toNatClampNeg) p1) (u.1 p0.toNatClampNeg) 0 4032), u.2) : StR) = v)) ∨ (¬ (¬ (fX3_isRow p0) = 0 ∧ ¬ p1 < 0 ∧ ¬ 3 < p1 ∧ ¬ (fX3_isRow p2) = 0) ∧ r = -2 ∧ u = v)) := by
  unfold gMi
  intro sz
  refine Met.ofW (cc := cX3_join) (maxL := 7) (ret := (some .int)) (by decide) rfl ?_
  intro p e s m args below meth c s₁ B hml hv
  obtain ⟨rfl, hsz, hP, hK, hD⟩ := hv
  subst hsz
  have hS : va_S (aR A s.heap.size) s.heap s.heap [] := va_S.rf
  have hx := B.exec
  have hb := B.bytes
  have hr := B.returns
  have hts := atoms_spec (ws := wX3_join) B.pre
  have hw : ∀ w ∈ tg_, w.before _ s = true := fun w h => hts w (List.mem_cons_of_mem _ h)
  have hown : s.vm.findClass RX3 = some m.cls := findClass_of_methodNamed B.named
  have hlocks := B.notSynchronized
  have hl := lv_entry ([.ref (mh_ A), .int p0, .int p1, .int p2]) (n := 7) (Nat.le_of_ble_eq_true rfl)
  rw [lg_entry_eq]
  generalize (lg_sl ([.ref (mh_ A), .int p0, .int p1, .int p2]) ++ List.replicate (7 - (lg_sl ([.ref (mh_ A), .int p0, .int p1, .int p2])).length) Slot.unset).toArray = ls at hl ⊢
  have hl : lv_has ls 7 [(0, .ref (mh_ A)), (1, .int p0), (2, .int p1), (3, .int p2)] := hl
  refine lv_iload_n hx hb dX3_join_0 rfl (lv_at hl 1 rfl) ?_
  refine vp_callSi (W.runS (As := [.int p0]) (rest := []) ⟨hx, hb, hml, hown, hts⟩ (c_X3_isRow l p0) (va_cwS 1 hts (gi_S hbc tw_261 tw_262 tw_4 tw_263) rfl rfl rfl (by decide +kernel) ⟨Nat.le_of_ble_eq_true rfl, Nat.le_of_ble_eq_true rfl⟩) preEq rfl rfl hl.1 rfl (lv_room (Nat.le_of_ble_eq_true rfl)) dX3_join_1 ⟨Nat.le_of_ble_eq_true rfl, Nat.le_of_ble_eq_true rfl⟩) (fun r hq => ?_)
  subst hq
  refine lv_if_eq (tgt := 23) hx hb dX3_join_4 (by decide) (fun c1 => ?_) (fun c1 => ?_)
  · refine lv_bipush (v := -2) hx hb dX3_join_23 (by decide) ?_
    exact W.iret hx hb hr (fun t9 ht9 hW => ⟨⟨_, u, rfl, Or.inr ⟨fun h => h.1 c1, rfl, rfl⟩, by rw [ht9]; exact hP, va_K.moved hW.alike hK, hD⟩, hS.F ht9⟩) hS.2.2 dX3_join_25
  · have hj_p0 := row_lt (p := p0) c1
    refine lv_iload_n hx hb dX3_join_7 rfl (lv_at hl 2 rfl) ?_
    refine lv_if_lt (tgt := 23) hx hb dX3_join_8 (by decide) (fun c2 => ?_) (fun c2 => ?_)
    · refine lv_bipush (v := -2) hx hb dX3_join_23 (by decide) ?_
      exact W.iret hx hb hr (fun t9 ht9 hW => ⟨⟨_, u, rfl, Or.inr ⟨fun h => h.2.1 c2, rfl, rfl⟩, by rw [ht9]; exact hP, va_K.moved hW.alike hK, hD⟩, hS.F ht9⟩) hS.2.2 dX3_join_25
    · refine lv_iload_n hx hb dX3_join_11 rfl (lv_at hl 2 rfl) ?_
      refine lv_iconst (v := 3) hx hb dX3_join_12 (by decide) ?_
      refine lv_icmp_gt (tgt := 23) hx hb dX3_join_13 (by decide) (fun c3 => ?_) (fun c3 => ?_)
      · refine lv_bipush (v := -2) hx hb dX3_join_23 (by decide) ?_
        exact W.iret hx hb hr (fun t9 ht9 hW => ⟨⟨_, u, rfl, Or.inr ⟨fun h => h.2.2.1 c3, rfl, rfl⟩, by rw [ht9]; exact hP, va_K.moved hW.alike hK, hD⟩, hS.F ht9⟩) hS.2.2 dX3_join_25
      · refine lv_iload_n hx hb dX3_join_16 rfl (lv_at hl 3 rfl) ?_
        refine vp_callSi (W.runS (As := [.int p2]) (rest := []) ⟨hx, hb, hml, hown, hts⟩ (c_X3_isRow l p2) (va_cwS 1 hts (gi_S hbc tw_261 tw_262 tw_4 tw_263) rfl rfl rfl (by decide +kernel) ⟨Nat.le_of_ble_eq_true rfl, Nat.le_of_ble_eq_true rfl⟩) preEq rfl rfl hl.1 rfl (lv_room (Nat.le_of_ble_eq_true rfl)) dX3_join_17 ⟨Nat.le_of_ble_eq_true rfl, Nat.le_of_ble_eq_true rfl⟩) (fun r hq => ?_)
        subst hq
        refine lv_if_ne (tgt := 26) hx hb dX3_join_20 (by decide) (fun c4 => ?_) (fun c4 => ?_)
        · have hj_p2 := row_lt (p := p2) c4
          refine lv_iconst (v := 0) hx hb dX3_join_26 (by decide) ?_
          refine lv_istore (lv' := [(4, .int 0), (0, .ref (mh_ A)), (1, .int p0), (2, .int p1), (3, .int p2)]) hx hb dX3_join_27 hl (by decide) rfl (fun ls hl => ?_)
          have hu_i : u = (upR u.1 p0.toNatClampNeg (flz (cbZ (u.1 p0.toNatClampNeg) (u.1 p2.toNatClampNeg) p1) (u.1 p0.toNatClampNeg) 0 0), u.2) := fz_u0 _ u _ _
          refine w_loop (N := 4032) (i0 := 0) (fun i H locs ls => va_P (dC, dI) bwCl (wR A (upR u.1 p0.toNatClampNeg (flz (cbZ (u.1 p0.toNatClampNeg) (u.1 p2.toNatClampNeg) p1) (u.1 p0.toNatClampNeg) 0 i), u.2)) H ∧ va_D (aR A s.heap.size) (wR A (upR u.1 p0.toNatClampNeg (flz (cbZ (u.1 p0.toNatClampNeg) (u.1 p2.toNatClampNeg) p1) (u.1 p0.toNatClampNeg) 0 i), u.2)) ∧ va_S (aR A s.heap.size) s.heap H locs ∧ lv_has ls 7 [(0, .ref (mh_ A)), (1, .int p0), (2, .int p1), (3, .int p2), (4, .int (nI i))]) (by decide) ⟨tr_PR hu_i hP, tr_DR hu_i hD, hS, lv_sub hl [1, 2, 3, 4, 0] rfl⟩ ?_
          intro i H locs ls hz_i hi_i hI ih_i
          obtain ⟨hP, hD, hS, hl⟩ := hI
          refine lv_iload hx hb dX3_join_29 (lv_at hl 4 rfl) ?_
          refine lv_sipush (v := 4032) hx hb dX3_join_31 (by decide) ?_
          refine lv_icmp_ge (tgt := 154) hx hb dX3_join_34 (by decide) (fun c5 => ?_) (fun c5 => ?_)
          · obtain rfl : i = 4032 := lp_out (n := 4032) rfl hi_i (by decide) c5
            refine lv_aload_n hx hb dX3_join_154 rfl (lv_at hl 0 rfl) ?_
            refine lv_iload_n hx hb dX3_join_155 rfl (lv_at hl 1 rfl) ?_
            refine gVi (As := [.int p0]) (rest := []) ⟨hx, hb, hml, hown, hts⟩ (c_X3_ones l dC dI A (upR u.1 p0.toNatClampNeg (flz (cbZ (u.1 p0.toNatClampNeg) (u.1 p2.toNatClampNeg) p1) (u.1 p0.toNatClampNeg) 0 4032), u.2) p0 hj_p0 (row_in (p := p0) c1)) (cwV 1 hts (gi_V hbc tw_277 tw_279 ts_4 tw_4 tw_280) rfl rfl rfl (by decide +kernel) ⟨Nat.le_of_ble_eq_true rfl, Nat.le_of_ble_eq_true rfl⟩) (va_recv hK hP (ci := 3) (q0 := 0) rfl rfl) aR_mono aR_D hP hK hD hS rfl hl.1 rfl (Nat.le_of_ble_eq_true rfl) dX3_join_156 ⟨Nat.le_of_ble_eq_true rfl, Nat.le_of_ble_eq_true rfl⟩ (fun r6 v8 H locs hq7 hP hD hS => ?_)
            obtain ⟨rfl, rfl⟩ := hq7
            exact W.iret hx hb hr (fun t9 ht9 hW => ⟨⟨_, (upR u.1 p0.toNatClampNeg (flz (cbZ (u.1 p0.toNatClampNeg) (u.1 p2.toNatClampNeg) p1) (u.1 p0.toNatClampNeg) 0 4032), u.2), rfl, Or.inl ⟨⟨c1, c2, c3, c4⟩, ⟨rfl, rfl⟩⟩, by rw [ht9]; exact hP, va_K.moved hW.alike hK, hD⟩, hS.F ht9⟩) hS.2.2 dX3_join_159
          · have hlt_i : i < 4032 := lp_in (n := 4032) rfl hi_i c5
            refine lv_aload_n hx hb dX3_join_37 rfl (lv_at hl 0 rfl) ?_
            refine va_get (D := (dC, dI)) (ci := 3) (v := .ref (mq_ A)) (C := RX3) (T := TX3) (N := 4) hx hb hw igX3 hown hK hP 0 rfl rfl 0 (by decide) (hw _ tw_242) (fun _ h9 => h9) rfl dX3_join_38 ?_
            refine lv_iload_n hx hb dX3_join_41 rfl (lv_at hl 1 rfl) ?_
            refine va_aldz hx hb hK hP 1 0 rfl rfl (row_in (p := p0) c1) dX3_join_42 ?_
            rw [mqF_at A hj_p0]
            refine lv_iload hx hb dX3_join_43 (lv_at hl 4 rfl) ?_
            refine va_zald hx hb hK hP (4 + p0.toNatClampNeg) (3 + p0.toNatClampNeg) (wR_row A (upR u.1 p0.toNatClampNeg (flz (cbZ (u.1 p0.toNatClampNeg) (u.1 p2.toNatClampNeg) p1) (u.1 p0.toNatClampNeg) 0 i), u.2) hj_p0) (tyR_row A hj_p0) (vp_in_nI (by omega) (by omega)) dX3_join_45 ?_
            rw [nI_clamp (n := i) (by omega)]
            refine lv_topi (fun z9 ez9 => ?_)
            obtain rfl : z9 = bz (u.1 p0.toNatClampNeg) i := ez9.trans (fz_rd _ u.1 p0.toNatClampNeg p0.toNatClampNeg 0 (Nat.le_refl i))
            refine lv_istore (lv' := [(5, .int (bz (u.1 p0.toNatClampNeg) i)), (0, .ref (mh_ A)), (1, .int p0), (2, .int p1), (3, .int p2), (4, .int (nI i))]) hx hb dX3_join_46 hl (by decide) rfl (fun ls hl => ?_)
            refine lv_aload_n hx hb dX3_join_48 rfl (lv_at hl 1 rfl) ?_
            refine va_get (D := (dC, dI)) (ci := 3) (v := .ref (mq_ A)) (C := RX3) (T := TX3) (N := 4) hx hb hw igX3 hown hK hP 0 rfl rfl 0 (by decide) (hw _ tw_242) (fun _ h9 => h9) rfl dX3_join_49 ?_
            refine lv_iload_n hx hb dX3_join_52 rfl (lv_at hl 4 rfl) ?_
            refine va_aldz hx hb hK hP 1 0 rfl rfl (row_in (p := p2) c4) dX3_join_53 ?_
            rw [mqF_at A hj_p2]
            refine lv_iload hx hb dX3_join_54 (lv_at hl 5 rfl) ?_
            refine va_zald hx hb hK hP (4 + p2.toNatClampNeg) (3 + p2.toNatClampNeg) (wR_row A (upR u.1 p0.toNatClampNeg (flz (cbZ (u.1 p0.toNatClampNeg) (u.1 p2.toNatClampNeg) p1) (u.1 p0.toNatClampNeg) 0 i), u.2) hj_p2) (tyR_row A hj_p2) (vp_in_nI (by omega) (by omega)) dX3_join_56 ?_
            rw [nI_clamp (n := i) (by omega)]
            refine lv_topi (fun z10 ez10 => ?_)
            obtain rfl : z10 = bz (u.1 p2.toNatClampNeg) i := ez10.trans (fz_rd _ u.1 p0.toNatClampNeg p2.toNatClampNeg 0 (Nat.le_refl i))
            refine lv_istore (lv' := [(6, .int (bz (u.1 p2.toNatClampNeg) i)), (5, .int (bz (u.1 p0.toNatClampNeg) i)), (0, .ref (mh_ A)), (1, .int p0), (2, .int p1), (3, .int p2), (4, .int (nI i))]) hx hb dX3_join_57 hl (by decide) rfl (fun ls hl => ?_)
            refine lv_aload_n hx hb dX3_join_59 rfl (lv_at hl 2 rfl) ?_
            refine va_get (D := (dC, dI)) (ci := 3) (v := .ref (mq_ A)) (C := RX3) (T := TX3) (N := 4) hx hb hw igX3 hown hK hP 0 rfl rfl 0 (by decide) (hw _ tw_242) (fun _ h9 => h9) rfl dX3_join_60 ?_
            refine lv_iload_n hx hb dX3_join_63 rfl (lv_at hl 3 rfl) ?_
            refine va_aldz hx hb hK hP 1 0 rfl rfl (row_in (p := p0) c1) dX3_join_64 ?_
            rw [mqF_at A hj_p0]
            refine lv_iload hx hb dX3_join_65 (lv_at hl 6 rfl) ?_
            refine lv_iload_n hx hb dX3_join_67 rfl (lv_at hl 4 rfl) ?_
            refine lv_if_ne (tgt := 89) hx hb dX3_join_68 (by decide) (fun c11 => ?_) (fun c11 => ?_)
            · refine lv_iload_n hx hb dX3_join_89 rfl (lv_at hl 4 rfl) ?_
              refine lv_iconst (v := 1) hx hb dX3_join_90 (by decide) ?_
              refine lv_icmp_ne (tgt := 112) hx hb dX3_join_91 (by decide) (fun c12 => ?_) (fun c12 => ?_)
              · refine lv_iload_n hx hb dX3_join_112 rfl (lv_at hl 4 rfl) ?_
                refine lv_iconst (v := 2) hx hb dX3_join_113 (by decide) ?_
                refine lv_icmp_ne (tgt := 132) hx hb dX3_join_114 (by decide) (fun c13 => ?_) (fun c13 => ?_)
                · refine lv_iload hx hb dX3_join_132 (lv_at hl 1 rfl) ?_
                  refine lv_if_eq (tgt := 146) hx hb dX3_join_134 (by decide) (fun c14 => ?_) (fun c14 => ?_)
                  · have c14 := b1f (b := _) c14
                    refine lv_iconst (v := 0) hx hb dX3_join_146 (by decide) ?_
                    refine va_zast hx hb hK hP hD hS (4 + p0.toNatClampNeg) (3 + p0.toNatClampNeg) (wR_row A (upR u.1 p0.toNatClampNeg (flz (cbZ (u.1 p0.toNatClampNeg) (u.1 p2.toNatClampNeg) p1) (u.1 p0.toNatClampNeg) 0 i), u.2) hj_p0) (tyR_row A hj_p0) (vp_in_nI (by omega) (by omega)) dX3_join_147 (fun H locs hP hD hS => ?_)
                    rw [nI_clamp (n := i) (by omega)] at hP hD
                    have hP : va_P (dC, dI) bwCl (wR A (upR (upR u.1 p0.toNatClampNeg (flz (cbZ (u.1 p0.toNatClampNeg) (u.1 p2.toNatClampNeg) p1) (u.1 p0.toNatClampNeg) 0 i), u.2).1 p0.toNatClampNeg (upZ ((upR u.1 p0.toNatClampNeg (flz (cbZ (u.1 p0.toNatClampNeg) (u.1 p2.toNatClampNeg) p1) (u.1 p0.toNatClampNeg) 0 i), u.2).1 p0.toNatClampNeg) i false), (upR u.1 p0.toNatClampNeg (flz (cbZ (u.1 p0.toNatClampNeg) (u.1 p2.toNatClampNeg) p1) (u.1 p0.toNatClampNeg) 0 i), u.2).2)) H := stR_P (nb_0) hj_p0 hP
                    have hD : va_D (aR A s.heap.size) (wR A (upR (upR u.1 p0.toNatClampNeg (flz (cbZ (u.1 p0.toNatClampNeg) (u.1 p2.toNatClampNeg) p1) (u.1 p0.toNatClampNeg) 0 i), u.2).1 p0.toNatClampNeg (upZ ((upR u.1 p0.toNatClampNeg (flz (cbZ (u.1 p0.toNatClampNeg) (u.1 p2.toNatClampNeg) p1) (u.1 p0.toNatClampNeg) 0 i), u.2).1 p0.toNatClampNeg) i false), (upR u.1 p0.toNatClampNeg (flz (cbZ (u.1 p0.toNatClampNeg) (u.1 p2.toNatClampNeg) p1) (u.1 p0.toNatClampNeg) 0 i), u.2).2)) := stR_D (nb_0) hj_p0 hD
                    refine lv_iinc (v := nI (i + 1)) (lv' := [(4, .int (nI (i + 1))), (6, .int (bz (u.1 p2.toNatClampNeg) i)), (5, .int (bz (u.1 p0.toNatClampNeg) i)), (0, .ref (mh_ A)), (1, .int p0), (2, .int p1), (3, .int p2)]) hx hb dX3_join_148 hl (k := 6) rfl (nI_1 _) (by decide) rfl (fun ls hl => ?_)
                    refine lv_goto (tgt := 29) hx hb dX3_join_151 (by decide) ?_
                    have hv_i : (upR (upR u.1 p0.toNatClampNeg (flz (cbZ (u.1 p0.toNatClampNeg) (u.1 p2.toNatClampNeg) p1) (u.1 p0.toNatClampNeg) 0 i), u.2).1 p0.toNatClampNeg (upZ ((upR u.1 p0.toNatClampNeg (flz (cbZ (u.1 p0.toNatClampNeg) (u.1 p2.toNatClampNeg) p1) (u.1 p0.toNatClampNeg) 0 i), u.2).1 p0.toNatClampNeg) i false), (upR u.1 p0.toNatClampNeg (flz (cbZ (u.1 p0.toNatClampNeg) (u.1 p2.toNatClampNeg) p1) (u.1 p0.toNatClampNeg) 0 i), u.2).2) = (upR u.1 p0.toNatClampNeg (flz (cbZ (u.1 p0.toNatClampNeg) (u.1 p2.toNatClampNeg) p1) (u.1 p0.toNatClampNeg) 0 (i + 1)), u.2) := fz_uS _ u _ (Nat.zero_le _) (by simp [cbZ, cbB, c11, c12, c13, c14])
                    exact ih_i _ _ _ (by omega) ⟨tr_PR hv_i hP, tr_DR hv_i hD, hS, lv_sub hl [3, 4, 5, 6, 0] rfl⟩
                  · have c14 := b1t (b := _) c14
                    refine lv_iload hx hb dX3_join_137 (lv_at hl 0 rfl) ?_
                    refine lv_if_ne (tgt := 146) hx hb dX3_join_139 (by decide) (fun c15 => ?_) (fun c15 => ?_)
                    · have c15 := b1t (b := _) c15
                      refine lv_iconst (v := 0) hx hb dX3_join_146 (by decide) ?_
                      refine va_zast hx hb hK hP hD hS (4 + p0.toNatClampNeg) (3 + p0.toNatClampNeg) (wR_row A (upR u.1 p0.toNatClampNeg (flz (cbZ (u.1 p0.toNatClampNeg) (u.1 p2.toNatClampNeg) p1) (u.1 p0.toNatClampNeg) 0 i), u.2) hj_p0) (tyR_row A hj_p0) (vp_in_nI (by omega) (by omega)) dX3_join_147 (fun H locs hP hD hS => ?_)
                      rw [nI_clamp (n := i) (by omega)] at hP hD
                      have hP : va_P (dC, dI) bwCl (wR A (upR (upR u.1 p0.toNatClampNeg (flz (cbZ (u.1 p0.toNatClampNeg) (u.1 p2.toNatClampNeg) p1) (u.1 p0.toNatClampNeg) 0 i), u.2).1 p0.toNatClampNeg (upZ ((upR u.1 p0.toNatClampNeg (flz (cbZ (u.1 p0.toNatClampNeg) (u.1 p2.toNatClampNeg) p1) (u.1 p0.toNatClampNeg) 0 i), u.2).1 p0.toNatClampNeg) i false), (upR u.1 p0.toNatClampNeg (flz (cbZ (u.1 p0.toNatClampNeg) (u.1 p2.toNatClampNeg) p1) (u.1 p0.toNatClampNeg) 0 i), u.2).2)) H := stR_P (nb_0) hj_p0 hP
                      have hD : va_D (aR A s.heap.size) (wR A (upR (upR u.1 p0.toNatClampNeg (flz (cbZ (u.1 p0.toNatClampNeg) (u.1 p2.toNatClampNeg) p1) (u.1 p0.toNatClampNeg) 0 i), u.2).1 p0.toNatClampNeg (upZ ((upR u.1 p0.toNatClampNeg (flz (cbZ (u.1 p0.toNatClampNeg) (u.1 p2.toNatClampNeg) p1) (u.1 p0.toNatClampNeg) 0 i), u.2).1 p0.toNatClampNeg) i false), (upR u.1 p0.toNatClampNeg (flz (cbZ (u.1 p0.toNatClampNeg) (u.1 p2.toNatClampNeg) p1) (u.1 p0.toNatClampNeg) 0 i), u.2).2)) := stR_D (nb_0) hj_p0 hD
                      refine lv_iinc (v := nI (i + 1)) (lv' := [(4, .int (nI (i + 1))), (6, .int (bz (u.1 p2.toNatClampNeg) i)), (5, .int (bz (u.1 p0.toNatClampNeg) i)), (0, .ref (mh_ A)), (1, .int p0), (2, .int p1), (3, .int p2)]) hx hb dX3_join_148 hl (k := 6) rfl (nI_1 _) (by decide) rfl (fun ls hl => ?_)
                      refine lv_goto (tgt := 29) hx hb dX3_join_151 (by decide) ?_
                      have hv_i : (upR (upR u.1 p0.toNatClampNeg (flz (cbZ (u.1 p0.toNatClampNeg) (u.1 p2.toNatClampNeg) p1) (u.1 p0.toNatClampNeg) 0 i), u.2).1 p0.toNatClampNeg (upZ ((upR u.1 p0.toNatClampNeg (flz (cbZ (u.1 p0.toNatClampNeg) (u.1 p2.toNatClampNeg) p1) (u.1 p0.toNatClampNeg) 0 i), u.2).1 p0.toNatClampNeg) i false), (upR u.1 p0.toNatClampNeg (flz (cbZ (u.1 p0.toNatClampNeg) (u.1 p2.toNatClampNeg) p1) (u.1 p0.toNatClampNeg) 0 i), u.2).2) = (upR u.1 p0.toNatClampNeg (flz (cbZ (u.1 p0.toNatClampNeg) (u.1 p2.toNatClampNeg) p1) (u.1 p0.toNatClampNeg) 0 (i + 1)), u.2) := fz_uS _ u _ (Nat.zero_le _) (by simp [cbZ, cbB, c11, c12, c13, c14, c15])
                      exact ih_i _ _ _ (by omega) ⟨tr_PR hv_i hP, tr_DR hv_i hD, hS, lv_sub hl [3, 4, 5, 6, 0] rfl⟩
                    · have c15 := b1f (b := _) c15
                      refine lv_iconst (v := 1) hx hb dX3_join_142 (by decide) ?_
                      refine lv_goto (tgt := 147) hx hb dX3_join_143 (by decide) ?_
                      refine va_zast hx hb hK hP hD hS (4 + p0.toNatClampNeg) (3 + p0.toNatClampNeg) (wR_row A (upR u.1 p0.toNatClampNeg (flz (cbZ (u.1 p0.toNatClampNeg) (u.1 p2.toNatClampNeg) p1) (u.1 p0.toNatClampNeg) 0 i), u.2) hj_p0) (tyR_row A hj_p0) (vp_in_nI (by omega) (by omega)) dX3_join_147 (fun H locs hP hD hS => ?_)
                      rw [nI_clamp (n := i) (by omega)] at hP hD
                      have hP : va_P (dC, dI) bwCl (wR A (upR (upR u.1 p0.toNatClampNeg (flz (cbZ (u.1 p0.toNatClampNeg) (u.1 p2.toNatClampNeg) p1) (u.1 p0.toNatClampNeg) 0 i), u.2).1 p0.toNatClampNeg (upZ ((upR u.1 p0.toNatClampNeg (flz (cbZ (u.1 p0.toNatClampNeg) (u.1 p2.toNatClampNeg) p1) (u.1 p0.toNatClampNeg) 0 i), u.2).1 p0.toNatClampNeg) i true), (upR u.1 p0.toNatClampNeg (flz (cbZ (u.1 p0.toNatClampNeg) (u.1 p2.toNatClampNeg) p1) (u.1 p0.toNatClampNeg) 0 i), u.2).2)) H := stR_P (nb_1) hj_p0 hP
                      have hD : va_D (aR A s.heap.size) (wR A (upR (upR u.1 p0.toNatClampNeg (flz (cbZ (u.1 p0.toNatClampNeg) (u.1 p2.toNatClampNeg) p1) (u.1 p0.toNatClampNeg) 0 i), u.2).1 p0.toNatClampNeg (upZ ((upR u.1 p0.toNatClampNeg (flz (cbZ (u.1 p0.toNatClampNeg) (u.1 p2.toNatClampNeg) p1) (u.1 p0.toNatClampNeg) 0 i), u.2).1 p0.toNatClampNeg) i true), (upR u.1 p0.toNatClampNeg (flz (cbZ (u.1 p0.toNatClampNeg) (u.1 p2.toNatClampNeg) p1) (u.1 p0.toNatClampNeg) 0 i), u.2).2)) := stR_D (nb_1) hj_p0 hD
                      refine lv_iinc (v := nI (i + 1)) (lv' := [(4, .int (nI (i + 1))), (6, .int (bz (u.1 p2.toNatClampNeg) i)), (5, .int (bz (u.1 p0.toNatClampNeg) i)), (0, .ref (mh_ A)), (1, .int p0), (2, .int p1), (3, .int p2)]) hx hb dX3_join_148 hl (k := 6) rfl (nI_1 _) (by decide) rfl (fun ls hl => ?_)
                      refine lv_goto (tgt := 29) hx hb dX3_join_151 (by decide) ?_
                      have hv_i : (upR (upR u.1 p0.toNatClampNeg (flz (cbZ (u.1 p0.toNatClampNeg) (u.1 p2.toNatClampNeg) p1) (u.1 p0.toNatClampNeg) 0 i), u.2).1 p0.toNatClampNeg (upZ ((upR u.1 p0.toNatClampNeg (flz (cbZ (u.1 p0.toNatClampNeg) (u.1 p2.toNatClampNeg) p1) (u.1 p0.toNatClampNeg) 0 i), u.2).1 p0.toNatClampNeg) i true), (upR u.1 p0.toNatClampNeg (flz (cbZ (u.1 p0.toNatClampNeg) (u.1 p2.toNatClampNeg) p1) (u.1 p0.toNatClampNeg) 0 i), u.2).2) = (upR u.1 p0.toNatClampNeg (flz (cbZ (u.1 p0.toNatClampNeg) (u.1 p2.toNatClampNeg) p1) (u.1 p0.toNatClampNeg) 0 (i + 1)), u.2) := fz_uS _ u _ (Nat.zero_le _) (by simp [cbZ, cbB, c11, c12, c13, c14, c15])
                      exact ih_i _ _ _ (by omega) ⟨tr_PR hv_i hP, tr_DR hv_i hD, hS, lv_sub hl [3, 4, 5, 6, 0] rfl⟩
                · refine lv_iload hx hb dX3_join_117 (lv_at hl 1 rfl) ?_
                  refine lv_iload hx hb dX3_join_119 (lv_at hl 0 rfl) ?_
                  refine lv_icmp_eq (tgt := 128) hx hb dX3_join_121 (by decide) (fun c16 => ?_) (fun c16 => ?_)
                  · have c16 := b1_e (b := _) (d := _) c16
                    refine lv_iconst (v := 0) hx hb dX3_join_128 (by decide) ?_
                    refine lv_goto (tgt := 147) hx hb dX3_join_129 (by decide) ?_
                    refine va_zast hx hb hK hP hD hS (4 + p0.toNatClampNeg) (3 + p0.toNatClampNeg) (wR_row A (upR u.1 p0.toNatClampNeg (flz (cbZ (u.1 p0.toNatClampNeg) (u.1 p2.toNatClampNeg) p1) (u.1 p0.toNatClampNeg) 0 i), u.2) hj_p0) (tyR_row A hj_p0) (vp_in_nI (by omega) (by omega)) dX3_join_147 (fun H locs hP hD hS => ?_)
                    rw [nI_clamp (n := i) (by omega)] at hP hD
                    have hP : va_P (dC, dI) bwCl (wR A (upR (upR u.1 p0.toNatClampNeg (flz (cbZ (u.1 p0.toNatClampNeg) (u.1 p2.toNatClampNeg) p1) (u.1 p0.toNatClampNeg) 0 i), u.2).1 p0.toNatClampNeg (upZ ((upR u.1 p0.toNatClampNeg (flz (cbZ (u.1 p0.toNatClampNeg) (u.1 p2.toNatClampNeg) p1) (u.1 p0.toNatClampNeg) 0 i), u.2).1 p0.toNatClampNeg) i false), (upR u.1 p0.toNatClampNeg (flz (cbZ (u.1 p0.toNatClampNeg) (u.1 p2.toNatClampNeg) p1) (u.1 p0.toNatClampNeg) 0 i), u.2).2)) H := stR_P (nb_0) hj_p0 hP
                    have hD : va_D (aR A s.heap.size) (wR A (upR (upR u.1 p0.toNatClampNeg (flz (cbZ (u.1 p0.toNatClampNeg) (u.1 p2.toNatClampNeg) p1) (u.1 p0.toNatClampNeg) 0 i), u.2).1 p0.toNatClampNeg (upZ ((upR u.1 p0.toNatClampNeg (flz (cbZ (u.1 p0.toNatClampNeg) (u.1 p2.toNatClampNeg) p1) (u.1 p0.toNatClampNeg) 0 i), u.2).1 p0.toNatClampNeg) i false), (upR u.1 p0.toNatClampNeg (flz (cbZ (u.1 p0.toNatClampNeg) (u.1 p2.toNatClampNeg) p1) (u.1 p0.toNatClampNeg) 0 i), u.2).2)) := stR_D (nb_0) hj_p0 hD
                    refine lv_iinc (v := nI (i + 1)) (lv' := [(4, .int (nI (i + 1))), (6, .int (bz (u.1 p2.toNatClampNeg) i)), (5, .int (bz (u.1 p0.toNatClampNeg) i)), (0, .ref (mh_ A)), (1, .int p0), (2, .int p1), (3, .int p2)]) hx hb dX3_join_148 hl (k := 6) rfl (nI_1 _) (by decide) rfl (fun ls hl => ?_)
                    refine lv_goto (tgt := 29) hx hb dX3_join_151 (by decide) ?_
                    have hv_i : (upR (upR u.1 p0.toNatClampNeg (flz (cbZ (u.1 p0.toNatClampNeg) (u.1 p2.toNatClampNeg) p1) (u.1 p0.toNatClampNeg) 0 i), u.2).1 p0.toNatClampNeg (upZ ((upR u.1 p0.toNatClampNeg (flz (cbZ (u.1 p0.toNatClampNeg) (u.1 p2.toNatClampNeg) p1) (u.1 p0.toNatClampNeg) 0 i), u.2).1 p0.toNatClampNeg) i false), (upR u.1 p0.toNatClampNeg (flz (cbZ (u.1 p0.toNatClampNeg) (u.1 p2.toNatClampNeg) p1) (u.1 p0.toNatClampNeg) 0 i), u.2).2) = (upR u.1 p0.toNatClampNeg (flz (cbZ (u.1 p0.toNatClampNeg) (u.1 p2.toNatClampNeg) p1) (u.1 p0.toNatClampNeg) 0 (i + 1)), u.2) := fz_uS _ u _ (Nat.zero_le _) (by simp [cbZ, cbB, c11, c12, c13, c16])
                    exact ih_i _ _ _ (by omega) ⟨tr_PR hv_i hP, tr_DR hv_i hD, hS, lv_sub hl [3, 4, 5, 6, 0] rfl⟩
                  · have c16 := b1_ne (b := _) (d := _) c16
                    refine lv_iconst (v := 1) hx hb dX3_join_124 (by decide) ?_
                    refine lv_goto (tgt := 147) hx hb dX3_join_125 (by decide) ?_
                    refine va_zast hx hb hK hP hD hS (4 + p0.toNatClampNeg) (3 + p0.toNatClampNeg) (wR_row A (upR u.1 p0.toNatClampNeg (flz (cbZ (u.1 p0.toNatClampNeg) (u.1 p2.toNatClampNeg) p1) (u.1 p0.toNatClampNeg) 0 i), u.2) hj_p0) (tyR_row A hj_p0) (vp_in_nI (by omega) (by omega)) dX3_join_147 (fun H locs hP hD hS => ?_)
                    rw [nI_clamp (n := i) (by omega)] at hP hD
                    have hP : va_P (dC, dI) bwCl (wR A (upR (upR u.1 p0.toNatClampNeg (flz (cbZ (u.1 p0.toNatClampNeg) (u.1 p2.toNatClampNeg) p1) (u.1 p0.toNatClampNeg) 0 i), u.2).1 p0.toNatClampNeg (upZ ((upR u.1 p0.toNatClampNeg (flz (cbZ (u.1 p0.toNatClampNeg) (u.1 p2.toNatClampNeg) p1) (u.1 p0.toNatClampNeg) 0 i), u.2).1 p0.toNatClampNeg) i true), (upR u.1 p0.toNatClampNeg (flz (cbZ (u.1 p0.toNatClampNeg) (u.1 p2.toNatClampNeg) p1) (u.1 p0.toNatClampNeg) 0 i), u.2).2)) H := stR_P (nb_1) hj_p0 hP
                    have hD : va_D (aR A s.heap.size) (wR A (upR (upR u.1 p0.toNatClampNeg (flz (cbZ (u.1 p0.toNatClampNeg) (u.1 p2.toNatClampNeg) p1) (u.1 p0.toNatClampNeg) 0 i), u.2).1 p0.toNatClampNeg (upZ ((upR u.1 p0.toNatClampNeg (flz (cbZ (u.1 p0.toNatClampNeg) (u.1 p2.toNatClampNeg) p1) (u.1 p0.toNatClampNeg) 0 i), u.2).1 p0.toNatClampNeg) i true), (upR u.1 p0.toNatClampNeg (flz (cbZ (u.1 p0.toNatClampNeg) (u.1 p2.toNatClampNeg) p1) (u.1 p0.toNatClampNeg) 0 i), u.2).2)) := stR_D (nb_1) hj_p0 hD
                    refine lv_iinc (v := nI (i + 1)) (lv' := [(4, .int (nI (i + 1))), (6, .int (bz (u.1 p2.toNatClampNeg) i)), (5, .int (bz (u.1 p0.toNatClampNeg) i)), (0, .ref (mh_ A)), (1, .int p0), (2, .int p1), (3, .int p2)]) hx hb dX3_join_148 hl (k := 6) rfl (nI_1 _) (by decide) rfl (fun ls hl => ?_)
                    refine lv_goto (tgt := 29) hx hb dX3_join_151 (by decide) ?_
                    have hv_i : (upR (upR u.1 p0.toNatClampNeg (flz (cbZ (u.1 p0.toNatClampNeg) (u.1 p2.toNatClampNeg) p1) (u.1 p0.toNatClampNeg) 0 i), u.2).1 p0.toNatClampNeg (upZ ((upR u.1 p0.toNatClampNeg (flz (cbZ (u.1 p0.toNatClampNeg) (u.1 p2.toNatClampNeg) p1) (u.1 p0.toNatClampNeg) 0 i), u.2).1 p0.toNatClampNeg) i true), (upR u.1 p0.toNatClampNeg (flz (cbZ (u.1 p0.toNatClampNeg) (u.1 p2.toNatClampNeg) p1) (u.1 p0.toNatClampNeg) 0 i), u.2).2) = (upR u.1 p0.toNatClampNeg (flz (cbZ (u.1 p0.toNatClampNeg) (u.1 p2.toNatClampNeg) p1) (u.1 p0.toNatClampNeg) 0 (i + 1)), u.2) := fz_uS _ u _ (Nat.zero_le _) (by simp [cbZ, cbB, c11, c12, c13, c16])
                    exact ih_i _ _ _ (by omega) ⟨tr_PR hv_i hP, tr_DR hv_i hD, hS, lv_sub hl [3, 4, 5, 6, 0] rfl⟩
              · refine lv_iload hx hb dX3_join_94 (lv_at hl 1 rfl) ?_
                refine lv_if_ne (tgt := 104) hx hb dX3_join_96 (by decide) (fun c17 => ?_) (fun c17 => ?_)
                · have c17 := b1t (b := _) c17
                  refine lv_iconst (v := 1) hx hb dX3_join_104 (by decide) ?_
                  refine lv_goto (tgt := 147) hx hb dX3_join_105 (by decide) ?_
                  refine va_zast hx hb hK hP hD hS (4 + p0.toNatClampNeg) (3 + p0.toNatClampNeg) (wR_row A (upR u.1 p0.toNatClampNeg (flz (cbZ (u.1 p0.toNatClampNeg) (u.1 p2.toNatClampNeg) p1) (u.1 p0.toNatClampNeg) 0 i), u.2) hj_p0) (tyR_row A hj_p0) (vp_in_nI (by omega) (by omega)) dX3_join_147 (fun H locs hP hD hS => ?_)
                  rw [nI_clamp (n := i) (by omega)] at hP hD
                  have hP : va_P (dC, dI) bwCl (wR A (upR (upR u.1 p0.toNatClampNeg (flz (cbZ (u.1 p0.toNatClampNeg) (u.1 p2.toNatClampNeg) p1) (u.1 p0.toNatClampNeg) 0 i), u.2).1 p0.toNatClampNeg (upZ ((upR u.1 p0.toNatClampNeg (flz (cbZ (u.1 p0.toNatClampNeg) (u.1 p2.toNatClampNeg) p1) (u.1 p0.toNatClampNeg) 0 i), u.2).1 p0.toNatClampNeg) i true), (upR u.1 p0.toNatClampNeg (flz (cbZ (u.1 p0.toNatClampNeg) (u.1 p2.toNatClampNeg) p1) (u.1 p0.toNatClampNeg) 0 i), u.2).2)) H := stR_P (nb_1) hj_p0 hP
                  have hD : va_D (aR A s.heap.size) (wR A (upR (upR u.1 p0.toNatClampNeg (flz (cbZ (u.1 p0.toNatClampNeg) (u.1 p2.toNatClampNeg) p1) (u.1 p0.toNatClampNeg) 0 i), u.2).1 p0.toNatClampNeg (upZ ((upR u.1 p0.toNatClampNeg (flz (cbZ (u.1 p0.toNatClampNeg) (u.1 p2.toNatClampNeg) p1) (u.1 p0.toNatClampNeg) 0 i), u.2).1 p0.toNatClampNeg) i true), (upR u.1 p0.toNatClampNeg (flz (cbZ (u.1 p0.toNatClampNeg) (u.1 p2.toNatClampNeg) p1) (u.1 p0.toNatClampNeg) 0 i), u.2).2)) := stR_D (nb_1) hj_p0 hD
                  refine lv_iinc (v := nI (i + 1)) (lv' := [(4, .int (nI (i + 1))), (6, .int (bz (u.1 p2.toNatClampNeg) i)), (5, .int (bz (u.1 p0.toNatClampNeg) i)), (0, .ref (mh_ A)), (1, .int p0), (2, .int p1), (3, .int p2)]) hx hb dX3_join_148 hl (k := 6) rfl (nI_1 _) (by decide) rfl (fun ls hl => ?_)
                  refine lv_goto (tgt := 29) hx hb dX3_join_151 (by decide) ?_
                  have hv_i : (upR (upR u.1 p0.toNatClampNeg (flz (cbZ (u.1 p0.toNatClampNeg) (u.1 p2.toNatClampNeg) p1) (u.1 p0.toNatClampNeg) 0 i), u.2).1 p0.toNatClampNeg (upZ ((upR u.1 p0.toNatClampNeg (flz (cbZ (u.1 p0.toNatClampNeg) (u.1 p2.toNatClampNeg) p1) (u.1 p0.toNatClampNeg) 0 i), u.2).1 p0.toNatClampNeg) i true), (upR u.1 p0.toNatClampNeg (flz (cbZ (u.1 p0.toNatClampNeg) (u.1 p2.toNatClampNeg) p1) (u.1 p0.toNatClampNeg) 0 i), u.2).2) = (upR u.1 p0.toNatClampNeg (flz (cbZ (u.1 p0.toNatClampNeg) (u.1 p2.toNatClampNeg) p1) (u.1 p0.toNatClampNeg) 0 (i + 1)), u.2) := fz_uS _ u _ (Nat.zero_le _) (by simp [cbZ, cbB, c11, c12, c17])
                  exact ih_i _ _ _ (by omega) ⟨tr_PR hv_i hP, tr_DR hv_i hD, hS, lv_sub hl [3, 4, 5, 6, 0] rfl⟩
                · have c17 := b1f (b := _) c17
                  refine lv_iload hx hb dX3_join_99 (lv_at hl 0 rfl) ?_
                  refine lv_if_eq (tgt := 108) hx hb dX3_join_101 (by decide) (fun c18 => ?_) (fun c18 => ?_)
                  · have c18 := b1f (b := _) c18
                    refine lv_iconst (v := 0) hx hb dX3_join_108 (by decide) ?_
                    refine lv_goto (tgt := 147) hx hb dX3_join_109 (by decide) ?_
                    refine va_zast hx hb hK hP hD hS (4 + p0.toNatClampNeg) (3 + p0.toNatClampNeg) (wR_row A (upR u.1 p0.toNatClampNeg (flz (cbZ (u.1 p0.toNatClampNeg) (u.1 p2.toNatClampNeg) p1) (u.1 p0.toNatClampNeg) 0 i), u.2) hj_p0) (tyR_row A hj_p0) (vp_in_nI (by omega) (by omega)) dX3_join_147 (fun H locs hP hD hS => ?_)
                    rw [nI_clamp (n := i) (by omega)] at hP hD
                    have hP : va_P (dC, dI) bwCl (wR A (upR (upR u.1 p0.toNatClampNeg (flz (cbZ (u.1 p0.toNatClampNeg) (u.1 p2.toNatClampNeg) p1) (u.1 p0.toNatClampNeg) 0 i), u.2).1 p0.toNatClampNeg (upZ ((upR u.1 p0.toNatClampNeg (flz (cbZ (u.1 p0.toNatClampNeg) (u.1 p2.toNatClampNeg) p1) (u.1 p0.toNatClampNeg) 0 i), u.2).1 p0.toNatClampNeg) i false), (upR u.1 p0.toNatClampNeg (flz (cbZ (u.1 p0.toNatClampNeg) (u.1 p2.toNatClampNeg) p1) (u.1 p0.toNatClampNeg) 0 i), u.2).2)) H := stR_P (nb_0) hj_p0 hP
                    have hD : va_D (aR A s.heap.size) (wR A (upR (upR u.1 p0.toNatClampNeg (flz (cbZ (u.1 p0.toNatClampNeg) (u.1 p2.toNatClampNeg) p1) (u.1 p0.toNatClampNeg) 0 i), u.2).1 p0.toNatClampNeg (upZ ((upR u.1 p0.toNatClampNeg (flz (cbZ (u.1 p0.toNatClampNeg) (u.1 p2.toNatClampNeg) p1) (u.1 p0.toNatClampNeg) 0 i), u.2).1 p0.toNatClampNeg) i false), (upR u.1 p0.toNatClampNeg (flz (cbZ (u.1 p0.toNatClampNeg) (u.1 p2.toNatClampNeg) p1) (u.1 p0.toNatClampNeg) 0 i), u.2).2)) := stR_D (nb_0) hj_p0 hD
                    refine lv_iinc (v := nI (i + 1)) (lv' := [(4, .int (nI (i + 1))), (6, .int (bz (u.1 p2.toNatClampNeg) i)), (5, .int (bz (u.1 p0.toNatClampNeg) i)), (0, .ref (mh_ A)), (1, .int p0), (2, .int p1), (3, .int p2)]) hx hb dX3_join_148 hl (k := 6) rfl (nI_1 _) (by decide) rfl (fun ls hl => ?_)
                    refine lv_goto (tgt := 29) hx hb dX3_join_151 (by decide) ?_
                    have hv_i : (upR (upR u.1 p0.toNatClampNeg (flz (cbZ (u.1 p0.toNatClampNeg) (u.1 p2.toNatClampNeg) p1) (u.1 p0.toNatClampNeg) 0 i), u.2).1 p0.toNatClampNeg (upZ ((upR u.1 p0.toNatClampNeg (flz (cbZ (u.1 p0.toNatClampNeg) (u.1 p2.toNatClampNeg) p1) (u.1 p0.toNatClampNeg) 0 i), u.2).1 p0.toNatClampNeg) i false), (upR u.1 p0.toNatClampNeg (flz (cbZ (u.1 p0.toNatClampNeg) (u.1 p2.toNatClampNeg) p1) (u.1 p0.toNatClampNeg) 0 i), u.2).2) = (upR u.1 p0.toNatClampNeg (flz (cbZ (u.1 p0.toNatClampNeg) (u.1 p2.toNatClampNeg) p1) (u.1 p0.toNatClampNeg) 0 (i + 1)), u.2) := fz_uS _ u _ (Nat.zero_le _) (by simp [cbZ, cbB, c11, c12, c17, c18])
                    exact ih_i _ _ _ (by omega) ⟨tr_PR hv_i hP, tr_DR hv_i hD, hS, lv_sub hl [3, 4, 5, 6, 0] rfl⟩
                  · have c18 := b1t (b := _) c18
                    refine lv_iconst (v := 1) hx hb dX3_join_104 (by decide) ?_
                    refine lv_goto (tgt := 147) hx hb dX3_join_105 (by decide) ?_
                    refine va_zast hx hb hK hP hD hS (4 + p0.toNatClampNeg) (3 + p0.toNatClampNeg) (wR_row A (upR u.1 p0.toNatClampNeg (flz (cbZ (u.1 p0.toNatClampNeg) (u.1 p2.toNatClampNeg) p1) (u.1 p0.toNatClampNeg) 0 i), u.2) hj_p0) (tyR_row A hj_p0) (vp_in_nI (by omega) (by omega)) dX3_join_147 (fun H locs hP hD hS => ?_)
                    rw [nI_clamp (n := i) (by omega)] at hP hD
                    have hP : va_P (dC, dI) bwCl (wR A (upR (upR u.1 p0.toNatClampNeg (flz (cbZ (u.1 p0.toNatClampNeg) (u.1 p2.toNatClampNeg) p1) (u.1 p0.toNatClampNeg) 0 i), u.2).1 p0.toNatClampNeg (upZ ((upR u.1 p0.toNatClampNeg (flz (cbZ (u.1 p0.toNatClampNeg) (u.1 p2.toNatClampNeg) p1) (u.1 p0.toNatClampNeg) 0 i), u.2).1 p0.toNatClampNeg) i true), (upR u.1 p0.toNatClampNeg (flz (cbZ (u.1 p0.toNatClampNeg) (u.1 p2.toNatClampNeg) p1) (u.1 p0.toNatClampNeg) 0 i), u.2).2)) H := stR_P (nb_1) hj_p0 hP
                    have hD : va_D (aR A s.heap.size) (wR A (upR (upR u.1 p0.toNatClampNeg (flz (cbZ (u.1 p0.toNatClampNeg) (u.1 p2.toNatClampNeg) p1) (u.1 p0.toNatClampNeg) 0 i), u.2).1 p0.toNatClampNeg (upZ ((upR u.1 p0.toNatClampNeg (flz (cbZ (u.1 p0.toNatClampNeg) (u.1 p2.toNatClampNeg) p1) (u.1 p0.toNatClampNeg) 0 i), u.2).1 p0.toNatClampNeg) i true), (upR u.1 p0.toNatClampNeg (flz (cbZ (u.1 p0.toNatClampNeg) (u.1 p2.toNatClampNeg) p1) (u.1 p0.toNatClampNeg) 0 i), u.2).2)) := stR_D (nb_1) hj_p0 hD
                    refine lv_iinc (v := nI (i + 1)) (lv' := [(4, .int (nI (i + 1))), (6, .int (bz (u.1 p2.toNatClampNeg) i)), (5, .int (bz (u.1 p0.toNatClampNeg) i)), (0, .ref (mh_ A)), (1, .int p0), (2, .int p1), (3, .int p2)]) hx hb dX3_join_148 hl (k := 6) rfl (nI_1 _) (by decide) rfl (fun ls hl => ?_)
                    refine lv_goto (tgt := 29) hx hb dX3_join_151 (by decide) ?_
                    have hv_i : (upR (upR u.1 p0.toNatClampNeg (flz (cbZ (u.1 p0.toNatClampNeg) (u.1 p2.toNatClampNeg) p1) (u.1 p0.toNatClampNeg) 0 i), u.2).1 p0.toNatClampNeg (upZ ((upR u.1 p0.toNatClampNeg (flz (cbZ (u.1 p0.toNatClampNeg) (u.1 p2.toNatClampNeg) p1) (u.1 p0.toNatClampNeg) 0 i), u.2).1 p0.toNatClampNeg) i true), (upR u.1 p0.toNatClampNeg (flz (cbZ (u.1 p0.toNatClampNeg) (u.1 p2.toNatClampNeg) p1) (u.1 p0.toNatClampNeg) 0 i), u.2).2) = (upR u.1 p0.toNatClampNeg (flz (cbZ (u.1 p0.toNatClampNeg) (u.1 p2.toNatClampNeg) p1) (u.1 p0.toNatClampNeg) 0 (i + 1)), u.2) := fz_uS _ u _ (Nat.zero_le _) (by simp [cbZ, cbB, c11, c12, c17, c18])
                    exact ih_i _ _ _ (by omega) ⟨tr_PR hv_i hP, tr_DR hv_i hD, hS, lv_sub hl [3, 4, 5, 6, 0] rfl⟩
            · refine lv_iload hx hb dX3_join_71 (lv_at hl 1 rfl) ?_
              refine lv_if_eq (tgt := 85) hx hb dX3_join_73 (by decide) (fun c19 => ?_) (fun c19 => ?_)
              · have c19 := b1f (b := _) c19
                refine lv_iconst (v := 0) hx hb dX3_join_85 (by decide) ?_
                refine lv_goto (tgt := 147) hx hb dX3_join_86 (by decide) ?_
                refine va_zast hx hb hK hP hD hS (4 + p0.toNatClampNeg) (3 + p0.toNatClampNeg) (wR_row A (upR u.1 p0.toNatClampNeg (flz (cbZ (u.1 p0.toNatClampNeg) (u.1 p2.toNatClampNeg) p1) (u.1 p0.toNatClampNeg) 0 i), u.2) hj_p0) (tyR_row A hj_p0) (vp_in_nI (by omega) (by omega)) dX3_join_147 (fun H locs hP hD hS => ?_)
                rw [nI_clamp (n := i) (by omega)] at hP hD
                have hP : va_P (dC, dI) bwCl (wR A (upR (upR u.1 p0.toNatClampNeg (flz (cbZ (u.1 p0.toNatClampNeg) (u.1 p2.toNatClampNeg) p1) (u.1 p0.toNatClampNeg) 0 i), u.2).1 p0.toNatClampNeg (upZ ((upR u.1 p0.toNatClampNeg (flz (cbZ (u.1 p0.toNatClampNeg) (u.1 p2.toNatClampNeg) p1) (u.1 p0.toNatClampNeg) 0 i), u.2).1 p0.toNatClampNeg) i false), (upR u.1 p0.toNatClampNeg (flz (cbZ (u.1 p0.toNatClampNeg) (u.1 p2.toNatClampNeg) p1) (u.1 p0.toNatClampNeg) 0 i), u.2).2)) H := stR_P (nb_0) hj_p0 hP
                have hD : va_D (aR A s.heap.size) (wR A (upR (upR u.1 p0.toNatClampNeg (flz (cbZ (u.1 p0.toNatClampNeg) (u.1 p2.toNatClampNeg) p1) (u.1 p0.toNatClampNeg) 0 i), u.2).1 p0.toNatClampNeg (upZ ((upR u.1 p0.toNatClampNeg (flz (cbZ (u.1 p0.toNatClampNeg) (u.1 p2.toNatClampNeg) p1) (u.1 p0.toNatClampNeg) 0 i), u.2).1 p0.toNatClampNeg) i false), (upR u.1 p0.toNatClampNeg (flz (cbZ (u.1 p0.toNatClampNeg) (u.1 p2.toNatClampNeg) p1) (u.1 p0.toNatClampNeg) 0 i), u.2).2)) := stR_D (nb_0) hj_p0 hD
                refine lv_iinc (v := nI (i + 1)) (lv' := [(4, .int (nI (i + 1))), (6, .int (bz (u.1 p2.toNatClampNeg) i)), (5, .int (bz (u.1 p0.toNatClampNeg) i)), (0, .ref (mh_ A)), (1, .int p0), (2, .int p1), (3, .int p2)]) hx hb dX3_join_148 hl (k := 6) rfl (nI_1 _) (by decide) rfl (fun ls hl => ?_)
                refine lv_goto (tgt := 29) hx hb dX3_join_151 (by decide) ?_
                have hv_i : (upR (upR u.1 p0.toNatClampNeg (flz (cbZ (u.1 p0.toNatClampNeg) (u.1 p2.toNatClampNeg) p1) (u.1 p0.toNatClampNeg) 0 i), u.2).1 p0.toNatClampNeg (upZ ((upR u.1 p0.toNatClampNeg (flz (cbZ (u.1 p0.toNatClampNeg) (u.1 p2.toNatClampNeg) p1) (u.1 p0.toNatClampNeg) 0 i), u.2).1 p0.toNatClampNeg) i false), (upR u.1 p0.toNatClampNeg (flz (cbZ (u.1 p0.toNatClampNeg) (u.1 p2.toNatClampNeg) p1) (u.1 p0.toNatClampNeg) 0 i), u.2).2) = (upR u.1 p0.toNatClampNeg (flz (cbZ (u.1 p0.toNatClampNeg) (u.1 p2.toNatClampNeg) p1) (u.1 p0.toNatClampNeg) 0 (i + 1)), u.2) := fz_uS _ u _ (Nat.zero_le _) (by simp [cbZ, cbB, c11, c19])
                exact ih_i _ _ _ (by omega) ⟨tr_PR hv_i hP, tr_DR hv_i hD, hS, lv_sub hl [3, 4, 5, 6, 0] rfl⟩
              · have c19 := b1t (b := _) c19
                refine lv_iload hx hb dX3_join_76 (lv_at hl 0 rfl) ?_
                refine lv_if_eq (tgt := 85) hx hb dX3_join_78 (by decide) (fun c20 => ?_) (fun c20 => ?_)
                · have c20 := b1f (b := _) c20
                  refine lv_iconst (v := 0) hx hb dX3_join_85 (by decide) ?_
                  refine lv_goto (tgt := 147) hx hb dX3_join_86 (by decide) ?_
                  refine va_zast hx hb hK hP hD hS (4 + p0.toNatClampNeg) (3 + p0.toNatClampNeg) (wR_row A (upR u.1 p0.toNatClampNeg (flz (cbZ (u.1 p0.toNatClampNeg) (u.1 p2.toNatClampNeg) p1) (u.1 p0.toNatClampNeg) 0 i), u.2) hj_p0) (tyR_row A hj_p0) (vp_in_nI (by omega) (by omega)) dX3_join_147 (fun H locs hP hD hS => ?_)
                  rw [nI_clamp (n := i) (by omega)] at hP hD
                  have hP : va_P (dC, dI) bwCl (wR A (upR (upR u.1 p0.toNatClampNeg (flz (cbZ (u.1 p0.toNatClampNeg) (u.1 p2.toNatClampNeg) p1) (u.1 p0.toNatClampNeg) 0 i), u.2).1 p0.toNatClampNeg (upZ ((upR u.1 p0.toNatClampNeg (flz (cbZ (u.1 p0.toNatClampNeg) (u.1 p2.toNatClampNeg) p1) (u.1 p0.toNatClampNeg) 0 i), u.2).1 p0.toNatClampNeg) i false), (upR u.1 p0.toNatClampNeg (flz (cbZ (u.1 p0.toNatClampNeg) (u.1 p2.toNatClampNeg) p1) (u.1 p0.toNatClampNeg) 0 i), u.2).2)) H := stR_P (nb_0) hj_p0 hP
                  have hD : va_D (aR A s.heap.size) (wR A (upR (upR u.1 p0.toNatClampNeg (flz (cbZ (u.1 p0.toNatClampNeg) (u.1 p2.toNatClampNeg) p1) (u.1 p0.toNatClampNeg) 0 i), u.2).1 p0.toNatClampNeg (upZ ((upR u.1 p0.toNatClampNeg (flz (cbZ (u.1 p0.toNatClampNeg) (u.1 p2.toNatClampNeg) p1) (u.1 p0.toNatClampNeg) 0 i), u.2).1 p0.toNatClampNeg) i false), (upR u.1 p0.toNatClampNeg (flz (cbZ (u.1 p0.toNatClampNeg) (u.1 p2.toNatClampNeg) p1) (u.1 p0.toNatClampNeg) 0 i), u.2).2)) := stR_D (nb_0) hj_p0 hD
                  refine lv_iinc (v := nI (i + 1)) (lv' := [(4, .int (nI (i + 1))), (6, .int (bz (u.1 p2.toNatClampNeg) i)), (5, .int (bz (u.1 p0.toNatClampNeg) i)), (0, .ref (mh_ A)), (1, .int p0), (2, .int p1), (3, .int p2)]) hx hb dX3_join_148 hl (k := 6) rfl (nI_1 _) (by decide) rfl (fun ls hl => ?_)
                  refine lv_goto (tgt := 29) hx hb dX3_join_151 (by decide) ?_
                  have hv_i : (upR (upR u.1 p0.toNatClampNeg (flz (cbZ (u.1 p0.toNatClampNeg) (u.1 p2.toNatClampNeg) p1) (u.1 p0.toNatClampNeg) 0 i), u.2).1 p0.toNatClampNeg (upZ ((upR u.1 p0.toNatClampNeg (flz (cbZ (u.1 p0.toNatClampNeg) (u.1 p2.toNatClampNeg) p1) (u.1 p0.toNatClampNeg) 0 i), u.2).1 p0.toNatClampNeg) i false), (upR u.1 p0.toNatClampNeg (flz (cbZ (u.1 p0.toNatClampNeg) (u.1 p2.toNatClampNeg) p1) (u.1 p0.toNatClampNeg) 0 i), u.2).2) = (upR u.1 p0.toNatClampNeg (flz (cbZ (u.1 p0.toNatClampNeg) (u.1 p2.toNatClampNeg) p1) (u.1 p0.toNatClampNeg) 0 (i + 1)), u.2) := fz_uS _ u _ (Nat.zero_le _) (by simp [cbZ, cbB, c11, c19, c20])
                  exact ih_i _ _ _ (by omega) ⟨tr_PR hv_i hP, tr_DR hv_i hD, hS, lv_sub hl [3, 4, 5, 6, 0] rfl⟩
                · have c20 := b1t (b := _) c20
                  refine lv_iconst (v := 1) hx hb dX3_join_81 (by decide) ?_
                  refine lv_goto (tgt := 147) hx hb dX3_join_82 (by decide) ?_
                  refine va_zast hx hb hK hP hD hS (4 + p0.toNatClampNeg) (3 + p0.toNatClampNeg) (wR_row A (upR u.1 p0.toNatClampNeg (flz (cbZ (u.1 p0.toNatClampNeg) (u.1 p2.toNatClampNeg) p1) (u.1 p0.toNatClampNeg) 0 i), u.2) hj_p0) (tyR_row A hj_p0) (vp_in_nI (by omega) (by omega)) dX3_join_147 (fun H locs hP hD hS => ?_)
                  rw [nI_clamp (n := i) (by omega)] at hP hD
                  have hP : va_P (dC, dI) bwCl (wR A (upR (upR u.1 p0.toNatClampNeg (flz (cbZ (u.1 p0.toNatClampNeg) (u.1 p2.toNatClampNeg) p1) (u.1 p0.toNatClampNeg) 0 i), u.2).1 p0.toNatClampNeg (upZ ((upR u.1 p0.toNatClampNeg (flz (cbZ (u.1 p0.toNatClampNeg) (u.1 p2.toNatClampNeg) p1) (u.1 p0.toNatClampNeg) 0 i), u.2).1 p0.toNatClampNeg) i true), (upR u.1 p0.toNatClampNeg (flz (cbZ (u.1 p0.toNatClampNeg) (u.1 p2.toNatClampNeg) p1) (u.1 p0.toNatClampNeg) 0 i), u.2).2)) H := stR_P (nb_1) hj_p0 hP
                  have hD : va_D (aR A s.heap.size) (wR A (upR (upR u.1 p0.toNatClampNeg (flz (cbZ (u.1 p0.toNatClampNeg) (u.1 p2.toNatClampNeg) p1) (u.1 p0.toNatClampNeg) 0 i), u.2).1 p0.toNatClampNeg (upZ ((upR u.1 p0.toNatClampNeg (flz (cbZ (u.1 p0.toNatClampNeg) (u.1 p2.toNatClampNeg) p1) (u.1 p0.toNatClampNeg) 0 i), u.2).1 p0.toNatClampNeg) i true), (upR u.1 p0.toNatClampNeg (flz (cbZ (u.1 p0.toNatClampNeg) (u.1 p2.toNatClampNeg) p1) (u.1 p0.toNatClampNeg) 0 i), u.2).2)) := stR_D (nb_1) hj_p0 hD
                  refine lv_iinc (v := nI (i + 1)) (lv' := [(4, .int (nI (i + 1))), (6, .int (bz (u.1 p2.toNatClampNeg) i)), (5, .int (bz (u.1 p0.toNatClampNeg) i)), (0, .ref (mh_ A)), (1, .int p0), (2, .int p1), (3, .int p2)]) hx hb dX3_join_148 hl (k := 6) rfl (nI_1 _) (by decide) rfl (fun ls hl => ?_)
                  refine lv_goto (tgt := 29) hx hb dX3_join_151 (by decide) ?_
                  have hv_i : (upR (upR u.1 p0.toNatClampNeg (flz (cbZ (u.1 p0.toNatClampNeg) (u.1 p2.toNatClampNeg) p1) (u.1 p0.toNatClampNeg) 0 i), u.2).1 p0.toNatClampNeg (upZ ((upR u.1 p0.toNatClampNeg (flz (cbZ (u.1 p0.toNatClampNeg) (u.1 p2.toNatClampNeg) p1) (u.1 p0.toNatClampNeg) 0 i), u.2).1 p0.toNatClampNeg) i true), (upR u.1 p0.toNatClampNeg (flz (cbZ (u.1 p0.toNatClampNeg) (u.1 p2.toNatClampNeg) p1) (u.1 p0.toNatClampNeg) 0 i), u.2).2) = (upR u.1 p0.toNatClampNeg (flz (cbZ (u.1 p0.toNatClampNeg) (u.1 p2.toNatClampNeg) p1) (u.1 p0.toNatClampNeg) 0 (i + 1)), u.2) := fz_uS _ u _ (Nat.zero_le _) (by simp [cbZ, cbB, c11, c19, c20])
                  exact ih_i _ _ _ (by omega) ⟨tr_PR hv_i hP, tr_DR hv_i hD, hS, lv_sub hl [3, 4, 5, 6, 0] rfl⟩
        · refine lv_bipush (v := -2) hx hb dX3_join_23 (by decide) ?_
          exact W.iret hx hb hr (fun t9 ht9 hW => ⟨⟨_, u, rfl, Or.inr ⟨fun h => h.2.2.2 c4, rfl, rfl⟩, by rw [ht9]; exact hP, va_K.moved hW.alike hK, hD⟩, hS.F ht9⟩) hS.2.2 dX3_join_25
set_option maxHeartbeats 4000000 in
set_option maxRecDepth 100000 in
theorem c_X3_copy (l : Launch) (dC : Nat → ClassId) (dI : Nat → Nat → Nat) (A : AdR) (u : StR)  (p0 : Int32) (p1 : Int32) : gMi l yX3_copy wX3_copy ({ frames := 1, cells := 0, slots := 0, locals := 23 }) (dC, dI) bwCl (tyR A) (wR A) (aR A) [.ref (mh_ A), .int p0, .int p1] u (fun r v => ((¬ (fX3_isRow p0) = 0 ∧ ¬ (fX3_isRow p1) = 0) ∧ (r = nI (cnt (((upR u.1 p0.toNatClampNeg (flz (u.1 p1.toNatClampNeg) (u.1 p0.toNatClampNeg) 0 4032), u.2) : StR).1 p0.toNatClampNeg) 4032) ∧ ((upR u.1 p0.toNatClampNeg (flz (u.1 p1.toNatClampNeg) (u.1 p0.toNatClampNeg) 0 4032), u.2) : StR) = v)) ∨ (¬ (¬ (fX3_isRow p0) = 0 ∧ ¬ (fX3_isRow p1) = 0) ∧ r = -2 ∧ u = v)) := by
  unfold gMi
  intro sz
  refine Met.ofW (cc := cX3_copy) (maxL := 4) (ret := (some .int)) (by decide) rfl ?_
  intro p e s m args below meth c s₁ B hml hv
  obtain ⟨rfl, hsz, hP, hK, hD⟩ := hv
  subst hsz
  have hS : va_S (aR A s.heap.size) s.heap s.heap [] := va_S.rf
  have hx := B.exec
  have hb := B.bytes
  have hr := B.returns
  have hts := atoms_spec (ws := wX3_copy) B.pre
  have hw : ∀ w ∈ tg_, w.before _ s = true := fun w h => hts w (List.mem_cons_of_mem _ h)
  have hown : s.vm.findClass RX3 = some m.cls := findClass_of_methodNamed B.named
  have hlocks := B.notSynchronized
  have hl := lv_entry ([.ref (mh_ A), .int p0, .int p1]) (n := 4) (Nat.le_of_ble_eq_true rfl)
  rw [lg_entry_eq]
  generalize (lg_sl ([.ref (mh_ A), .int p0, .int p1]) ++ List.replicate (4 - (lg_sl ([.ref (mh_ A), .int p0, .int p1])).length) Slot.unset).toArray = ls at hl ⊢
  have hl : lv_has ls 4 [(0, .ref (mh_ A)), (1, .int p0), (2, .int p1)] := hl
  refine lv_iload_n hx hb dX3_copy_0 rfl (lv_at hl 1 rfl) ?_
  refine vp_callSi (W.runS (As := [.int p0]) (rest := []) ⟨hx, hb, hml, hown, hts⟩ (c_X3_isRow l p0) (va_cwS 1 hts (gi_S hbc tw_261 tw_262 tw_4 tw_263) rfl rfl rfl (by decide +kernel) ⟨Nat.le_of_ble_eq_true rfl, Nat.le_of_ble_eq_true rfl⟩) preEq rfl rfl hl.1 rfl (lv_room (Nat.le_of_ble_eq_true rfl)) dX3_copy_1 ⟨Nat.le_of_ble_eq_true rfl, Nat.le_of_ble_eq_true rfl⟩) (fun r hq => ?_)
  subst hq
  refine lv_if_eq (tgt := 14) hx hb dX3_copy_4 (by decide) (fun c1 => ?_) (fun c1 => ?_)
  · refine lv_bipush (v := -2) hx hb dX3_copy_14 (by decide) ?_
    exact W.iret hx hb hr (fun t9 ht9 hW => ⟨⟨_, u, rfl, Or.inr ⟨fun h => h.1 c1, rfl, rfl⟩, by rw [ht9]; exact hP, va_K.moved hW.alike hK, hD⟩, hS.F ht9⟩) hS.2.2 dX3_copy_16
  · have hj_p0 := row_lt (p := p0) c1
    refine lv_iload_n hx hb dX3_copy_7 rfl (lv_at hl 2 rfl) ?_
    refine vp_callSi (W.runS (As := [.int p1]) (rest := []) ⟨hx, hb, hml, hown, hts⟩ (c_X3_isRow l p1) (va_cwS 1 hts (gi_S hbc tw_261 tw_262 tw_4 tw_263) rfl rfl rfl (by decide +kernel) ⟨Nat.le_of_ble_eq_true rfl, Nat.le_of_ble_eq_true rfl⟩) preEq rfl rfl hl.1 rfl (lv_room (Nat.le_of_ble_eq_true rfl)) dX3_copy_8 ⟨Nat.le_of_ble_eq_true rfl, Nat.le_of_ble_eq_true rfl⟩) (fun r hq => ?_)
    subst hq
    refine lv_if_ne (tgt := 17) hx hb dX3_copy_11 (by decide) (fun c2 => ?_) (fun c2 => ?_)
    · have hj_p1 := row_lt (p := p1) c2
      refine lv_iconst (v := 0) hx hb dX3_copy_17 (by decide) ?_
      refine lv_istore_n (lv' := [(3, .int 0), (0, .ref (mh_ A)), (1, .int p0), (2, .int p1)]) hx hb dX3_copy_18 rfl hl (by decide) rfl (fun ls hl => ?_)
      have hu_i : u = (upR u.1 p0.toNatClampNeg (flz (u.1 p1.toNatClampNeg) (u.1 p0.toNatClampNeg) 0 0), u.2) := fz_u0 _ u _ _
      refine w_loop (N := 4032) (i0 := 0) (fun i H locs ls => va_P (dC, dI) bwCl (wR A (upR u.1 p0.toNatClampNeg (flz (u.1 p1.toNatClampNeg) (u.1 p0.toNatClampNeg) 0 i), u.2)) H ∧ va_D (aR A s.heap.size) (wR A (upR u.1 p0.toNatClampNeg (flz (u.1 p1.toNatClampNeg) (u.1 p0.toNatClampNeg) 0 i), u.2)) ∧ va_S (aR A s.heap.size) s.heap H locs ∧ lv_has ls 4 [(0, .ref (mh_ A)), (1, .int p0), (2, .int p1), (3, .int (nI i))]) (by decide) ⟨tr_PR hu_i hP, tr_DR hu_i hD, hS, lv_sub hl [1, 2, 3, 0] rfl⟩ ?_
      intro i H locs ls hz_i hi_i hI ih_i
      obtain ⟨hP, hD, hS, hl⟩ := hI
      refine lv_iload_n hx hb dX3_copy_19 rfl (lv_at hl 3 rfl) ?_
      refine lv_sipush (v := 4032) hx hb dX3_copy_20 (by decide) ?_
      refine lv_icmp_ge (tgt := 48) hx hb dX3_copy_23 (by decide) (fun c3 => ?_) (fun c3 => ?_)
      · obtain rfl : i = 4032 := lp_out (n := 4032) rfl hi_i (by decide) c3
        refine lv_aload_n hx hb dX3_copy_48 rfl (lv_at hl 0 rfl) ?_
        refine lv_iload_n hx hb dX3_copy_49 rfl (lv_at hl 1 rfl) ?_
        refine gVi (As := [.int p0]) (rest := []) ⟨hx, hb, hml, hown, hts⟩ (c_X3_ones l dC dI A (upR u.1 p0.toNatClampNeg (flz (u.1 p1.toNatClampNeg) (u.1 p0.toNatClampNeg) 0 4032), u.2) p0 hj_p0 (row_in (p := p0) c1)) (cwV 1 hts (gi_V hbc tw_277 tw_279 ts_4 tw_4 tw_280) rfl rfl rfl (by decide +kernel) ⟨Nat.le_of_ble_eq_true rfl, Nat.le_of_ble_eq_true rfl⟩) (va_recv hK hP (ci := 3) (q0 := 0) rfl rfl) aR_mono aR_D hP hK hD hS rfl hl.1 rfl (Nat.le_of_ble_eq_true rfl) dX3_copy_50 ⟨Nat.le_of_ble_eq_true rfl, Nat.le_of_ble_eq_true rfl⟩ (fun r4 v6 H locs hq5 hP hD hS => ?_)
        obtain ⟨rfl, rfl⟩ := hq5
        exact W.iret hx hb hr (fun t9 ht9 hW => ⟨⟨_, (upR u.1 p0.toNatClampNeg (flz (u.1 p1.toNatClampNeg) (u.1 p0.toNatClampNeg) 0 4032), u.2), rfl, Or.inl ⟨⟨c1, c2⟩, ⟨rfl, rfl⟩⟩, by rw [ht9]; exact hP, va_K.moved hW.alike hK, hD⟩, hS.F ht9⟩) hS.2.2 dX3_copy_53
      · have hlt_i : i < 4032 := lp_in (n := 4032) rfl hi_i c3
        refine lv_aload_n hx hb dX3_copy_26 rfl (lv_at hl 0 rfl) ?_
        refine va_get (D := (dC, dI)) (ci := 3) (v := .ref (mq_ A)) (C := RX3) (T := TX3) (N := 4) hx hb hw igX3 hown hK hP 0 rfl rfl 0 (by decide) (hw _ tw_242) (fun _ h9 => h9) rfl dX3_copy_27 ?_
        refine lv_iload_n hx hb dX3_copy_30 rfl (lv_at hl 1 rfl) ?_
        refine va_aldz hx hb hK hP 1 0 rfl rfl (row_in (p := p0) c1) dX3_copy_31 ?_
        rw [mqF_at A hj_p0]
        refine lv_iload_n hx hb dX3_copy_32 rfl (lv_at hl 3 rfl) ?_
        refine lv_aload_n hx hb dX3_copy_33 rfl (lv_at hl 0 rfl) ?_
        refine va_get (D := (dC, dI)) (ci := 3) (v := .ref (mq_ A)) (C := RX3) (T := TX3) (N := 4) hx hb hw igX3 hown hK hP 0 rfl rfl 0 (by decide) (hw _ tw_242) (fun _ h9 => h9) rfl dX3_copy_34 ?_
        refine lv_iload_n hx hb dX3_copy_37 rfl (lv_at hl 2 rfl) ?_
        refine va_aldz hx hb hK hP 1 0 rfl rfl (row_in (p := p1) c2) dX3_copy_38 ?_
        rw [mqF_at A hj_p1]
        refine lv_iload_n hx hb dX3_copy_39 rfl (lv_at hl 3 rfl) ?_
        refine va_zald hx hb hK hP (4 + p1.toNatClampNeg) (3 + p1.toNatClampNeg) (wR_row A (upR u.1 p0.toNatClampNeg (flz (u.1 p1.toNatClampNeg) (u.1 p0.toNatClampNeg) 0 i), u.2) hj_p1) (tyR_row A hj_p1) (vp_in_nI (by omega) (by omega)) dX3_copy_40 ?_
        rw [nI_clamp (n := i) (by omega)]
        refine lv_topi (fun z7 ez7 => ?_)
        obtain rfl : z7 = bz (u.1 p1.toNatClampNeg) i := ez7.trans (fz_rd _ u.1 p0.toNatClampNeg p1.toNatClampNeg 0 (Nat.le_refl i))
        refine va_zast hx hb hK hP hD hS (4 + p0.toNatClampNeg) (3 + p0.toNatClampNeg) (wR_row A (upR u.1 p0.toNatClampNeg (flz (u.1 p1.toNatClampNeg) (u.1 p0.toNatClampNeg) 0 i), u.2) hj_p0) (tyR_row A hj_p0) (vp_in_nI (by omega) (by omega)) dX3_copy_41 (fun H locs hP hD hS => ?_)
        rw [nI_clamp (n := i) (by omega)] at hP hD
        have hP : va_P (dC, dI) bwCl (wR A (upR (upR u.1 p0.toNatClampNeg (flz (u.1 p1.toNatClampNeg) (u.1 p0.toNatClampNeg) 0 i), u.2).1 p0.toNatClampNeg (upZ ((upR u.1 p0.toNatClampNeg (flz (u.1 p1.toNatClampNeg) (u.1 p0.toNatClampNeg) 0 i), u.2).1 p0.toNatClampNeg) i ((u.1 p1.toNatClampNeg) i)), (upR u.1 p0.toNatClampNeg (flz (u.1 p1.toNatClampNeg) (u.1 p0.toNatClampNeg) 0 i), u.2).2)) H := stR_P (nb_b _) hj_p0 hP
        have hD : va_D (aR A s.heap.size) (wR A (upR (upR u.1 p0.toNatClampNeg (flz (u.1 p1.toNatClampNeg) (u.1 p0.toNatClampNeg) 0 i), u.2).1 p0.toNatClampNeg (upZ ((upR u.1 p0.toNatClampNeg (flz (u.1 p1.toNatClampNeg) (u.1 p0.toNatClampNeg) 0 i), u.2).1 p0.toNatClampNeg) i ((u.1 p1.toNatClampNeg) i)), (upR u.1 p0.toNatClampNeg (flz (u.1 p1.toNatClampNeg) (u.1 p0.toNatClampNeg) 0 i), u.2).2)) := stR_D (nb_b _) hj_p0 hD
        refine lv_iinc (v := nI (i + 1)) (lv' := [(3, .int (nI (i + 1))), (0, .ref (mh_ A)), (1, .int p0), (2, .int p1)]) hx hb dX3_copy_42 hl (k := 3) rfl (nI_1 _) (by decide) rfl (fun ls hl => ?_)
        refine lv_goto (tgt := 19) hx hb dX3_copy_45 (by decide) ?_
        have hv_i : (upR (upR u.1 p0.toNatClampNeg (flz (u.1 p1.toNatClampNeg) (u.1 p0.toNatClampNeg) 0 i), u.2).1 p0.toNatClampNeg (upZ ((upR u.1 p0.toNatClampNeg (flz (u.1 p1.toNatClampNeg) (u.1 p0.toNatClampNeg) 0 i), u.2).1 p0.toNatClampNeg) i ((u.1 p1.toNatClampNeg) i)), (upR u.1 p0.toNatClampNeg (flz (u.1 p1.toNatClampNeg) (u.1 p0.toNatClampNeg) 0 i), u.2).2) = (upR u.1 p0.toNatClampNeg (flz (u.1 p1.toNatClampNeg) (u.1 p0.toNatClampNeg) 0 (i + 1)), u.2) := fz_uS _ u _ (Nat.zero_le _) rfl
        exact ih_i _ _ _ (by omega) ⟨tr_PR hv_i hP, tr_DR hv_i hD, hS, lv_sub hl [1, 2, 3, 0] rfl⟩
    · refine lv_bipush (v := -2) hx hb dX3_copy_14 (by decide) ?_
      exact W.iret hx hb hr (fun t9 ht9 hW => ⟨⟨_, u, rfl, Or.inr ⟨fun h => h.2 c2, rfl, rfl⟩, by rw [ht9]; exact hP, va_K.moved hW.alike hK, hD⟩, hS.F ht9⟩) hS.2.2 dX3_copy_16
set_option maxHeartbeats 4000000 in
set_option maxRecDepth 100000 in
theorem c_X3_clear (l : Launch) (dC : Nat → ClassId) (dI : Nat → Nat → Nat) (A : AdR) (u : StR)  (p0 : Int32) : gMi l yX3_clear wX3_clear ({ frames := 1, cells := 0, slots := 0, locals := 23 }) (dC, dI) bwCl (tyR A) (wR A) (aR A) [.ref (mh_ A), .int p0] u (fun r v => ((¬ (fX3_isRow p0) = 0) ∧ (r = nI (cnt (u.1 p0.toNatClampNeg) 4032) ∧ ((upR u.1 p0.toNatClampNeg (flz (fun _ => false) (u.1 p0.toNatClampNeg) 0 4032), u.2) : StR) = v)) ∨ (¬ (¬ (fX3_isRow p0) = 0) ∧ r = -2 ∧ u = v)) := by
  unfold gMi
  intro sz
  refine Met.ofW (cc := cX3_clear) (maxL := 4) (ret := (some .int)) (by decide) rfl ?_
  intro p e s m args below meth c s₁ B hml hv
  obtain ⟨rfl, hsz, hP, hK, hD⟩ := hv
  subst hsz
  have hS : va_S (aR A s.heap.size) s.heap s.heap [] := va_S.rf
  have hx := B.exec
  have hb := B.bytes
  have hr := B.returns
  have hts := atoms_spec (ws := wX3_clear) B.pre
  have hw : ∀ w ∈ tg_, w.before _ s = true := fun w h => hts w (List.mem_cons_of_mem _ h)
  have hown : s.vm.findClass RX3 = some m.cls := findClass_of_methodNamed B.named
  have hlocks := B.notSynchronized
  have hl := lv_entry ([.ref (mh_ A), .int p0]) (n := 4) (Nat.le_of_ble_eq_true rfl)
  rw [lg_entry_eq]
  generalize (lg_sl ([.ref (mh_ A), .int p0]) ++ List.replicate (4 - (lg_sl ([.ref (mh_ A), .int p0])).length) Slot.unset).toArray = ls at hl ⊢
  have hl : lv_has ls 4 [(0, .ref (mh_ A)), (1, .int p0)] := hl
  refine lv_iload_n hx hb dX3_clear_0 rfl (lv_at hl 1 rfl) ?_
  refine vp_callSi (W.runS (As := [.int p0]) (rest := []) ⟨hx, hb, hml, hown, hts⟩ (c_X3_isRow l p0) (va_cwS 1 hts (gi_S hbc tw_261 tw_262 tw_4 tw_263) rfl rfl rfl (by decide +kernel) ⟨Nat.le_of_ble_eq_true rfl, Nat.le_of_ble_eq_true rfl⟩) preEq rfl rfl hl.1 rfl (lv_room (Nat.le_of_ble_eq_true rfl)) dX3_clear_1 ⟨Nat.le_of_ble_eq_true rfl, Nat.le_of_ble_eq_true rfl⟩) (fun r hq => ?_)
  subst hq
  refine lv_if_ne (tgt := 10) hx hb dX3_clear_4 (by decide) (fun c1 => ?_) (fun c1 => ?_)
  · have hj_p0 := row_lt (p := p0) c1
    refine lv_aload_n hx hb dX3_clear_10 rfl (lv_at hl 0 rfl) ?_
    refine lv_iload_n hx hb dX3_clear_11 rfl (lv_at hl 1 rfl) ?_
    refine gVi (As := [.int p0]) (rest := []) ⟨hx, hb, hml, hown, hts⟩ (c_X3_ones l dC dI A u p0 hj_p0 (row_in (p := p0) c1)) (cwV 1 hts (gi_V hbc tw_277 tw_279 ts_4 tw_4 tw_280) rfl rfl rfl (by decide +kernel) ⟨Nat.le_of_ble_eq_true rfl, Nat.le_of_ble_eq_true rfl⟩) (va_recv hK hP (ci := 3) (q0 := 0) rfl rfl) aR_mono aR_D hP hK hD hS rfl hl.1 rfl (Nat.le_of_ble_eq_true rfl) dX3_clear_12 ⟨Nat.le_of_ble_eq_true rfl, Nat.le_of_ble_eq_true rfl⟩ (fun r2 v4 H locs hq3 hP hD hS => ?_)
    obtain ⟨rfl, rfl⟩ := hq3
    refine lv_istore_n (lv' := [(2, .int (nI (cnt (u.1 p0.toNatClampNeg) 4032))), (0, .ref (mh_ A)), (1, .int p0)]) hx hb dX3_clear_15 rfl hl (by decide) rfl (fun ls hl => ?_)
    refine lv_iconst (v := 0) hx hb dX3_clear_16 (by decide) ?_
    refine lv_istore_n (lv' := [(3, .int 0), (2, .int (nI (cnt (u.1 p0.toNatClampNeg) 4032))), (0, .ref (mh_ A)), (1, .int p0)]) hx hb dX3_clear_17 rfl hl (by decide) rfl (fun ls hl => ?_)
    have hu_i : u = (upR u.1 p0.toNatClampNeg (flz (fun _ => false) (u.1 p0.toNatClampNeg) 0 0), u.2) := fz_u0 _ u _ _
    refine w_loop (N := 4032) (i0 := 0) (fun i H locs ls => va_P (dC, dI) bwCl (wR A (upR u.1 p0.toNatClampNeg (flz (fun _ => false) (u.1 p0.toNatClampNeg) 0 i), u.2)) H ∧ va_D (aR A s.heap.size) (wR A (upR u.1 p0.toNatClampNeg (flz (fun _ => false) (u.1 p0.toNatClampNeg) 0 i), u.2)) ∧ va_S (aR A s.heap.size) s.heap H locs ∧ lv_has ls 4 [(0, .ref (mh_ A)), (1, .int p0), (2, .int (nI (cnt (u.1 p0.toNatClampNeg) 4032))), (3, .int (nI i))]) (by decide) ⟨tr_PR hu_i hP, tr_DR hu_i hD, hS, lv_sub hl [2, 3, 1, 0] rfl⟩ ?_
    intro i H locs ls hz_i hi_i hI ih_i
    obtain ⟨hP, hD, hS, hl⟩ := hI
    refine lv_iload_n hx hb dX3_clear_18 rfl (lv_at hl 3 rfl) ?_
    refine lv_sipush (v := 4032) hx hb dX3_clear_19 (by decide) ?_
    refine lv_icmp_ge (tgt := 40) hx hb dX3_clear_22 (by decide) (fun c5 => ?_) (fun c5 => ?_)
    · obtain rfl : i = 4032 := lp_out (n := 4032) rfl hi_i (by decide) c5
      refine lv_iload_n hx hb dX3_clear_40 rfl (lv_at hl 2 rfl) ?_
      exact W.iret hx hb hr (fun t9 ht9 hW => ⟨⟨_, (upR u.1 p0.toNatClampNeg (flz (fun _ => false) (u.1 p0.toNatClampNeg) 0 4032), u.2), rfl, Or.inl ⟨c1, ⟨rfl, rfl⟩⟩, by rw [ht9]; exact hP, va_K.moved hW.alike hK, hD⟩, hS.F ht9⟩) hS.2.2 dX3_clear_41
    · have hlt_i : i < 4032 := lp_in (n := 4032) rfl hi_i c5
      refine lv_aload_n hx hb dX3_clear_25 rfl (lv_at hl 0 rfl) ?_
      refine va_get (D := (dC, dI)) (ci := 3) (v := .ref (mq_ A)) (C := RX3) (T := TX3) (N := 4) hx hb hw igX3 hown hK hP 0 rfl rfl 0 (by decide) (hw _ tw_242) (fun _ h9 => h9) rfl dX3_clear_26 ?_
      refine lv_iload_n hx hb dX3_clear_29 rfl (lv_at hl 1 rfl) ?_
      refine va_aldz hx hb hK hP 1 0 rfl rfl (row_in (p := p0) c1) dX3_clear_30 ?_
      rw [mqF_at A hj_p0]
      refine lv_iload_n hx hb dX3_clear_31 rfl (lv_at hl 3 rfl) ?_
      refine lv_iconst (v := 0) hx hb dX3_clear_32 (by decide) ?_
      refine va_zast hx hb hK hP hD hS (4 + p0.toNatClampNeg) (3 + p0.toNatClampNeg) (wR_row A (upR u.1 p0.toNatClampNeg (flz (fun _ => false) (u.1 p0.toNatClampNeg) 0 i), u.2) hj_p0) (tyR_row A hj_p0) (vp_in_nI (by omega) (by omega)) dX3_clear_33 (fun H locs hP hD hS => ?_)
      rw [nI_clamp (n := i) (by omega)] at hP hD
      have hP : va_P (dC, dI) bwCl (wR A (upR (upR u.1 p0.toNatClampNeg (flz (fun _ => false) (u.1 p0.toNatClampNeg) 0 i), u.2).1 p0.toNatClampNeg (upZ ((upR u.1 p0.toNatClampNeg (flz (fun _ => false) (u.1 p0.toNatClampNeg) 0 i), u.2).1 p0.toNatClampNeg) i false), (upR u.1 p0.toNatClampNeg (flz (fun _ => false) (u.1 p0.toNatClampNeg) 0 i), u.2).2)) H := stR_P (nb_0) hj_p0 hP
      have hD : va_D (aR A s.heap.size) (wR A (upR (upR u.1 p0.toNatClampNeg (flz (fun _ => false) (u.1 p0.toNatClampNeg) 0 i), u.2).1 p0.toNatClampNeg (upZ ((upR u.1 p0.toNatClampNeg (flz (fun _ => false) (u.1 p0.toNatClampNeg) 0 i), u.2).1 p0.toNatClampNeg) i false), (upR u.1 p0.toNatClampNeg (flz (fun _ => false) (u.1 p0.toNatClampNeg) 0 i), u.2).2)) := stR_D (nb_0) hj_p0 hD
      refine lv_iinc (v := nI (i + 1)) (lv' := [(3, .int (nI (i + 1))), (0, .ref (mh_ A)), (1, .int p0), (2, .int (nI (cnt (u.1 p0.toNatClampNeg) 4032)))]) hx hb dX3_clear_34 hl (k := 3) rfl (nI_1 _) (by decide) rfl (fun ls hl => ?_)
      refine lv_goto (tgt := 18) hx hb dX3_clear_37 (by decide) ?_
      have hv_i : (upR (upR u.1 p0.toNatClampNeg (flz (fun _ => false) (u.1 p0.toNatClampNeg) 0 i), u.2).1 p0.toNatClampNeg (upZ ((upR u.1 p0.toNatClampNeg (flz (fun _ => false) (u.1 p0.toNatClampNeg) 0 i), u.2).1 p0.toNatClampNeg) i false), (upR u.1 p0.toNatClampNeg (flz (fun _ => false) (u.1 p0.toNatClampNeg) 0 i), u.2).2) = (upR u.1 p0.toNatClampNeg (flz (fun _ => false) (u.1 p0.toNatClampNeg) 0 (i + 1)), u.2) := fz_uS _ u _ (Nat.zero_le _) rfl
      exact ih_i _ _ _ (by omega) ⟨tr_PR hv_i hP, tr_DR hv_i hD, hS, lv_sub hl [1, 2, 3, 0] rfl⟩
  · refine lv_bipush (v := -2) hx hb dX3_clear_7 (by decide) ?_
    exact W.iret hx hb hr (fun t9 ht9 hW => ⟨⟨_, u, rfl, Or.inr ⟨fun h => h c1, rfl, rfl⟩, by rw [ht9]; exact hP, va_K.moved hW.alike hK, hD⟩, hS.F ht9⟩) hS.2.2 dX3_clear_9
set_option maxHeartbeats 4000000 in
set_option maxRecDepth 100000 in
theorem c_X3_load (l : Launch) (dC : Nat → ClassId) (dI : Nat → Nat → Nat) (A : AdR) (u : StR)  (p0 : Int32) (p1 : Int64) (p2 : Int64) (p3 : Int64) : gMi l yX3_load wX3_load ({ frames := 1, cells := 0, slots := 0, locals := 23 }) (dC, dI) bwCl (tyR A) (wR A) (aR A) [.ref (mh_ A), .int p0, .long p1, .long p2, .long p3] u (fun r v => ((¬ (fX3_isRow p0) = 0) ∧ (r = nI (cnt (((upR u.1 p0.toNatClampNeg (flz (ldZ p1 p2 p3) (u.1 p0.toNatClampNeg) 0 4032), u.2) : StR).1 p0.toNatClampNeg) 4032) ∧ ((upR u.1 p0.toNatClampNeg (flz (ldZ p1 p2 p3) (u.1 p0.toNatClampNeg) 0 4032), u.2) : StR) = v)) ∨ (¬ (¬ (fX3_isRow p0) = 0) ∧ r = -2 ∧ u = v)) := by
  unfold gMi
  intro sz
  refine Met.ofW (cc := cX3_load) (maxL := 9) (ret := (some .int)) (by decide) rfl ?_
  intro p e s m args below meth c s₁ B hml hv
  obtain ⟨rfl, hsz, hP, hK, hD⟩ := hv
  subst hsz
  have hS : va_S (aR A s.heap.size) s.heap s.heap [] := va_S.rf
  have hx := B.exec
  have hb := B.bytes
  have hr := B.returns
  have hts := atoms_spec (ws := wX3_load) B.pre
  have hw : ∀ w ∈ tg_, w.before _ s = true := fun w h => hts w (List.mem_cons_of_mem _ h)
  have hown : s.vm.findClass RX3 = some m.cls := findClass_of_methodNamed B.named
  have hlocks := B.notSynchronized
  have hl := lv_entry ([.ref (mh_ A), .int p0, .long p1, .long p2, .long p3]) (n := 9) (Nat.le_of_ble_eq_true rfl)
  rw [lg_entry_eq]
  generalize (lg_sl ([.ref (mh_ A), .int p0, .long p1, .long p2, .long p3]) ++ List.replicate (9 - (lg_sl ([.ref (mh_ A), .int p0, .long p1, .long p2, .long p3])).length) Slot.unset).toArray = ls at hl ⊢
  have hl : lv_has ls 9 [(0, .ref (mh_ A)), (1, .int p0), (2, .long p1), (4, .long p2), (6, .long p3)] := hl
  refine lv_iload_n hx hb dX3_load_0 rfl (lv_at hl 1 rfl) ?_
  refine vp_callSi (W.runS (As := [.int p0]) (rest := []) ⟨hx, hb, hml, hown, hts⟩ (c_X3_isRow l p0) (va_cwS 1 hts (gi_S hbc tw_261 tw_262 tw_4 tw_263) rfl rfl rfl (by decide +kernel) ⟨Nat.le_of_ble_eq_true rfl, Nat.le_of_ble_eq_true rfl⟩) preEq rfl rfl hl.1 rfl (lv_room (Nat.le_of_ble_eq_true rfl)) dX3_load_1 ⟨Nat.le_of_ble_eq_true rfl, Nat.le_of_ble_eq_true rfl⟩) (fun r hq => ?_)
  subst hq
  refine lv_if_ne (tgt := 10) hx hb dX3_load_4 (by decide) (fun c1 => ?_) (fun c1 => ?_)
  · have hj_p0 := row_lt (p := p0) c1
    refine lv_iconst (v := 0) hx hb dX3_load_10 (by decide) ?_
    refine lv_istore (lv' := [(8, .int 0), (0, .ref (mh_ A)), (1, .int p0), (2, .long p1), (4, .long p2), (6, .long p3)]) hx hb dX3_load_11 hl (by decide) rfl (fun ls hl => ?_)
    have hu_i : u = (upR u.1 p0.toNatClampNeg (flz (ldZ p1 p2 p3) (u.1 p0.toNatClampNeg) 0 0), u.2) := fz_u0 _ u _ _
    refine w_loop (N := 4032) (i0 := 0) (fun i H locs ls => va_P (dC, dI) bwCl (wR A (upR u.1 p0.toNatClampNeg (flz (ldZ p1 p2 p3) (u.1 p0.toNatClampNeg) 0 i), u.2)) H ∧ va_D (aR A s.heap.size) (wR A (upR u.1 p0.toNatClampNeg (flz (ldZ p1 p2 p3) (u.1 p0.toNatClampNeg) 0 i), u.2)) ∧ va_S (aR A s.heap.size) s.heap H locs ∧ lv_has ls 9 [(0, .ref (mh_ A)), (1, .int p0), (2, .long p1), (4, .long p2), (6, .long p3), (8, .int (nI i))]) (by decide) ⟨tr_PR hu_i hP, tr_DR hu_i hD, hS, lv_sub hl [1, 2, 3, 4, 5, 0] rfl⟩ ?_
    intro i H locs ls hz_i hi_i hI ih_i
    obtain ⟨hP, hD, hS, hl⟩ := hI
    refine lv_iload hx hb dX3_load_13 (lv_at hl 5 rfl) ?_
    refine lv_sipush (v := 4032) hx hb dX3_load_15 (by decide) ?_
    refine lv_icmp_ge (tgt := 88) hx hb dX3_load_18 (by decide) (fun c2 => ?_) (fun c2 => ?_)
    · obtain rfl : i = 4032 := lp_out (n := 4032) rfl hi_i (by decide) c2
      refine lv_aload_n hx hb dX3_load_88 rfl (lv_at hl 0 rfl) ?_
      refine lv_iload_n hx hb dX3_load_89 rfl (lv_at hl 1 rfl) ?_
      refine gVi (As := [.int p0]) (rest := []) ⟨hx, hb, hml, hown, hts⟩ (c_X3_ones l dC dI A (upR u.1 p0.toNatClampNeg (flz (ldZ p1 p2 p3) (u.1 p0.toNatClampNeg) 0 4032), u.2) p0 hj_p0 (row_in (p := p0) c1)) (cwV 1 hts (gi_V hbc tw_277 tw_279 ts_4 tw_4 tw_280) rfl rfl rfl (by decide +kernel) ⟨Nat.le_of_ble_eq_true rfl, Nat.le_of_ble_eq_true rfl⟩) (va_recv hK hP (ci := 3) (q0 := 0) rfl rfl) aR_mono aR_D hP hK hD hS rfl hl.1 rfl (Nat.le_of_ble_eq_true rfl) dX3_load_90 ⟨Nat.le_of_ble_eq_true rfl, Nat.le_of_ble_eq_true rfl⟩ (fun r3 v5 H locs hq4 hP hD hS => ?_)
      obtain ⟨rfl, rfl⟩ := hq4
      exact W.iret hx hb hr (fun t9 ht9 hW => ⟨⟨_, (upR u.1 p0.toNatClampNeg (flz (ldZ p1 p2 p3) (u.1 p0.toNatClampNeg) 0 4032), u.2), rfl, Or.inl ⟨c1, ⟨rfl, rfl⟩⟩, by rw [ht9]; exact hP, va_K.moved hW.alike hK, hD⟩, hS.F ht9⟩) hS.2.2 dX3_load_93
    · have hlt_i : i < 4032 := lp_in (n := 4032) rfl hi_i c2
      refine lv_aload_n hx hb dX3_load_21 rfl (lv_at hl 0 rfl) ?_
      refine va_get (D := (dC, dI)) (ci := 3) (v := .ref (mq_ A)) (C := RX3) (T := TX3) (N := 4) hx hb hw igX3 hown hK hP 0 rfl rfl 0 (by decide) (hw _ tw_242) (fun _ h9 => h9) rfl dX3_load_22 ?_
      refine lv_iload_n hx hb dX3_load_25 rfl (lv_at hl 1 rfl) ?_
      refine va_aldz hx hb hK hP 1 0 rfl rfl (row_in (p := p0) c1) dX3_load_26 ?_
      rw [mqF_at A hj_p0]
      refine lv_iload hx hb dX3_load_27 (lv_at hl 5 rfl) ?_
      refine lv_iload hx hb dX3_load_29 (lv_at hl 5 rfl) ?_
      refine lv_sipush (v := 192) hx hb dX3_load_31 (by decide) ?_
      refine lv_icmp_ge (tgt := 80) hx hb dX3_load_34 (by decide) (fun c6 => ?_) (fun c6 => ?_)
      · refine lv_iconst (v := 0) hx hb dX3_load_80 (by decide) ?_
        refine va_zast hx hb hK hP hD hS (4 + p0.toNatClampNeg) (3 + p0.toNatClampNeg) (wR_row A (upR u.1 p0.toNatClampNeg (flz (ldZ p1 p2 p3) (u.1 p0.toNatClampNeg) 0 i), u.2) hj_p0) (tyR_row A hj_p0) (vp_in_nI (by omega) (by omega)) dX3_load_81 (fun H locs hP hD hS => ?_)
        rw [nI_clamp (n := i) (by omega)] at hP hD
        have hP : va_P (dC, dI) bwCl (wR A (upR (upR u.1 p0.toNatClampNeg (flz (ldZ p1 p2 p3) (u.1 p0.toNatClampNeg) 0 i), u.2).1 p0.toNatClampNeg (upZ ((upR u.1 p0.toNatClampNeg (flz (ldZ p1 p2 p3) (u.1 p0.toNatClampNeg) 0 i), u.2).1 p0.toNatClampNeg) i false), (upR u.1 p0.toNatClampNeg (flz (ldZ p1 p2 p3) (u.1 p0.toNatClampNeg) 0 i), u.2).2)) H := stR_P (nb_0) hj_p0 hP
        have hD : va_D (aR A s.heap.size) (wR A (upR (upR u.1 p0.toNatClampNeg (flz (ldZ p1 p2 p3) (u.1 p0.toNatClampNeg) 0 i), u.2).1 p0.toNatClampNeg (upZ ((upR u.1 p0.toNatClampNeg (flz (ldZ p1 p2 p3) (u.1 p0.toNatClampNeg) 0 i), u.2).1 p0.toNatClampNeg) i false), (upR u.1 p0.toNatClampNeg (flz (ldZ p1 p2 p3) (u.1 p0.toNatClampNeg) 0 i), u.2).2)) := stR_D (nb_0) hj_p0 hD
        refine lv_iinc (v := nI (i + 1)) (lv' := [(8, .int (nI (i + 1))), (0, .ref (mh_ A)), (1, .int p0), (2, .long p1), (4, .long p2), (6, .long p3)]) hx hb dX3_load_82 hl (k := 5) rfl (nI_1 _) (by decide) rfl (fun ls hl => ?_)
        refine lv_goto (tgt := 13) hx hb dX3_load_85 (by decide) ?_
        have hv_i : (upR (upR u.1 p0.toNatClampNeg (flz (ldZ p1 p2 p3) (u.1 p0.toNatClampNeg) 0 i), u.2).1 p0.toNatClampNeg (upZ ((upR u.1 p0.toNatClampNeg (flz (ldZ p1 p2 p3) (u.1 p0.toNatClampNeg) 0 i), u.2).1 p0.toNatClampNeg) i false), (upR u.1 p0.toNatClampNeg (flz (ldZ p1 p2 p3) (u.1 p0.toNatClampNeg) 0 i), u.2).2) = (upR u.1 p0.toNatClampNeg (flz (ldZ p1 p2 p3) (u.1 p0.toNatClampNeg) 0 (i + 1)), u.2) := fz_uS _ u _ (Nat.zero_le _) (ld_hi hlt_i c6)
        exact ih_i _ _ _ (by omega) ⟨tr_PR hv_i hP, tr_DR hv_i hD, hS, lv_sub hl [1, 2, 3, 4, 5, 0] rfl⟩
      · refine lv_iload hx hb dX3_load_37 (lv_at hl 5 rfl) ?_
        refine lv_bipush (v := 64) hx hb dX3_load_39 (by decide) ?_
        refine lv_icmp_ge (tgt := 48) hx hb dX3_load_41 (by decide) (fun c7 => ?_) (fun c7 => ?_)
        · refine lv_iload hx hb dX3_load_48 (lv_at hl 5 rfl) ?_
          refine lv_sipush (v := 128) hx hb dX3_load_50 (by decide) ?_
          refine lv_icmp_ge (tgt := 61) hx hb dX3_load_53 (by decide) (fun c8 => ?_) (fun c8 => ?_)
          · refine lv_lload hx hb dX3_load_61 (lv_at hl 4 rfl) ?_
            refine lv_iload hx hb dX3_load_63 (lv_at hl 5 rfl) ?_
            refine lv_bipush (v := 64) hx hb dX3_load_65 (by decide) ?_
            refine lv_irem hx hb dX3_load_67 (by decide) ?_
            refine lv_lshr hx hb dX3_load_68 rfl ?_
            refine lv_lconst (v := 1) hx hb dX3_load_69 (by decide) ?_
            refine lv_land hx hb dX3_load_70 ?_
            refine lv_lconst (v := 1) hx hb dX3_load_71 (by decide) ?_
            refine W.lcmp hx hb dX3_load_72 ?_
            refine lv_if_ne (tgt := 80) hx hb dX3_load_73 (by decide) (fun c9 => ?_) (fun c9 => ?_)
            · refine lv_iconst (v := 0) hx hb dX3_load_80 (by decide) ?_
              refine va_zast hx hb hK hP hD hS (4 + p0.toNatClampNeg) (3 + p0.toNatClampNeg) (wR_row A (upR u.1 p0.toNatClampNeg (flz (ldZ p1 p2 p3) (u.1 p0.toNatClampNeg) 0 i), u.2) hj_p0) (tyR_row A hj_p0) (vp_in_nI (by omega) (by omega)) dX3_load_81 (fun H locs hP hD hS => ?_)
              rw [nI_clamp (n := i) (by omega)] at hP hD
              have hP : va_P (dC, dI) bwCl (wR A (upR (upR u.1 p0.toNatClampNeg (flz (ldZ p1 p2 p3) (u.1 p0.toNatClampNeg) 0 i), u.2).1 p0.toNatClampNeg (upZ ((upR u.1 p0.toNatClampNeg (flz (ldZ p1 p2 p3) (u.1 p0.toNatClampNeg) 0 i), u.2).1 p0.toNatClampNeg) i false), (upR u.1 p0.toNatClampNeg (flz (ldZ p1 p2 p3) (u.1 p0.toNatClampNeg) 0 i), u.2).2)) H := stR_P (nb_0) hj_p0 hP
              have hD : va_D (aR A s.heap.size) (wR A (upR (upR u.1 p0.toNatClampNeg (flz (ldZ p1 p2 p3) (u.1 p0.toNatClampNeg) 0 i), u.2).1 p0.toNatClampNeg (upZ ((upR u.1 p0.toNatClampNeg (flz (ldZ p1 p2 p3) (u.1 p0.toNatClampNeg) 0 i), u.2).1 p0.toNatClampNeg) i false), (upR u.1 p0.toNatClampNeg (flz (ldZ p1 p2 p3) (u.1 p0.toNatClampNeg) 0 i), u.2).2)) := stR_D (nb_0) hj_p0 hD
              refine lv_iinc (v := nI (i + 1)) (lv' := [(8, .int (nI (i + 1))), (0, .ref (mh_ A)), (1, .int p0), (2, .long p1), (4, .long p2), (6, .long p3)]) hx hb dX3_load_82 hl (k := 5) rfl (nI_1 _) (by decide) rfl (fun ls hl => ?_)
              refine lv_goto (tgt := 13) hx hb dX3_load_85 (by decide) ?_
              have hv_i : (upR (upR u.1 p0.toNatClampNeg (flz (ldZ p1 p2 p3) (u.1 p0.toNatClampNeg) 0 i), u.2).1 p0.toNatClampNeg (upZ ((upR u.1 p0.toNatClampNeg (flz (ldZ p1 p2 p3) (u.1 p0.toNatClampNeg) 0 i), u.2).1 p0.toNatClampNeg) i false), (upR u.1 p0.toNatClampNeg (flz (ldZ p1 p2 p3) (u.1 p0.toNatClampNeg) 0 i), u.2).2) = (upR u.1 p0.toNatClampNeg (flz (ldZ p1 p2 p3) (u.1 p0.toNatClampNeg) 0 (i + 1)), u.2) := fz_uS _ u _ (Nat.zero_le _) (ld_f3 hlt_i c6 c7 c8 c9)
              exact ih_i _ _ _ (by omega) ⟨tr_PR hv_i hP, tr_DR hv_i hD, hS, lv_sub hl [1, 2, 3, 4, 5, 0] rfl⟩
            · refine lv_iconst (v := 1) hx hb dX3_load_76 (by decide) ?_
              refine lv_goto (tgt := 81) hx hb dX3_load_77 (by decide) ?_
              refine va_zast hx hb hK hP hD hS (4 + p0.toNatClampNeg) (3 + p0.toNatClampNeg) (wR_row A (upR u.1 p0.toNatClampNeg (flz (ldZ p1 p2 p3) (u.1 p0.toNatClampNeg) 0 i), u.2) hj_p0) (tyR_row A hj_p0) (vp_in_nI (by omega) (by omega)) dX3_load_81 (fun H locs hP hD hS => ?_)
              rw [nI_clamp (n := i) (by omega)] at hP hD
              have hP : va_P (dC, dI) bwCl (wR A (upR (upR u.1 p0.toNatClampNeg (flz (ldZ p1 p2 p3) (u.1 p0.toNatClampNeg) 0 i), u.2).1 p0.toNatClampNeg (upZ ((upR u.1 p0.toNatClampNeg (flz (ldZ p1 p2 p3) (u.1 p0.toNatClampNeg) 0 i), u.2).1 p0.toNatClampNeg) i true), (upR u.1 p0.toNatClampNeg (flz (ldZ p1 p2 p3) (u.1 p0.toNatClampNeg) 0 i), u.2).2)) H := stR_P (nb_1) hj_p0 hP
              have hD : va_D (aR A s.heap.size) (wR A (upR (upR u.1 p0.toNatClampNeg (flz (ldZ p1 p2 p3) (u.1 p0.toNatClampNeg) 0 i), u.2).1 p0.toNatClampNeg (upZ ((upR u.1 p0.toNatClampNeg (flz (ldZ p1 p2 p3) (u.1 p0.toNatClampNeg) 0 i), u.2).1 p0.toNatClampNeg) i true), (upR u.1 p0.toNatClampNeg (flz (ldZ p1 p2 p3) (u.1 p0.toNatClampNeg) 0 i), u.2).2)) := stR_D (nb_1) hj_p0 hD
              refine lv_iinc (v := nI (i + 1)) (lv' := [(8, .int (nI (i + 1))), (0, .ref (mh_ A)), (1, .int p0), (2, .long p1), (4, .long p2), (6, .long p3)]) hx hb dX3_load_82 hl (k := 5) rfl (nI_1 _) (by decide) rfl (fun ls hl => ?_)
              refine lv_goto (tgt := 13) hx hb dX3_load_85 (by decide) ?_
              have hv_i : (upR (upR u.1 p0.toNatClampNeg (flz (ldZ p1 p2 p3) (u.1 p0.toNatClampNeg) 0 i), u.2).1 p0.toNatClampNeg (upZ ((upR u.1 p0.toNatClampNeg (flz (ldZ p1 p2 p3) (u.1 p0.toNatClampNeg) 0 i), u.2).1 p0.toNatClampNeg) i true), (upR u.1 p0.toNatClampNeg (flz (ldZ p1 p2 p3) (u.1 p0.toNatClampNeg) 0 i), u.2).2) = (upR u.1 p0.toNatClampNeg (flz (ldZ p1 p2 p3) (u.1 p0.toNatClampNeg) 0 (i + 1)), u.2) := fz_uS _ u _ (Nat.zero_le _) (ld_t3 hlt_i c6 c7 c8 c9)
              exact ih_i _ _ _ (by omega) ⟨tr_PR hv_i hP, tr_DR hv_i hD, hS, lv_sub hl [1, 2, 3, 4, 5, 0] rfl⟩
          · refine lv_lload hx hb dX3_load_56 (lv_at hl 3 rfl) ?_
            refine lv_goto (tgt := 63) hx hb dX3_load_58 (by decide) ?_
            refine lv_iload hx hb dX3_load_63 (lv_at hl 5 rfl) ?_
            refine lv_bipush (v := 64) hx hb dX3_load_65 (by decide) ?_
            refine lv_irem hx hb dX3_load_67 (by decide) ?_
            refine lv_lshr hx hb dX3_load_68 rfl ?_
            refine lv_lconst (v := 1) hx hb dX3_load_69 (by decide) ?_
            refine lv_land hx hb dX3_load_70 ?_
            refine lv_lconst (v := 1) hx hb dX3_load_71 (by decide) ?_
            refine W.lcmp hx hb dX3_load_72 ?_
            refine lv_if_ne (tgt := 80) hx hb dX3_load_73 (by decide) (fun c10 => ?_) (fun c10 => ?_)
            · refine lv_iconst (v := 0) hx hb dX3_load_80 (by decide) ?_
              refine va_zast hx hb hK hP hD hS (4 + p0.toNatClampNeg) (3 + p0.toNatClampNeg) (wR_row A (upR u.1 p0.toNatClampNeg (flz (ldZ p1 p2 p3) (u.1 p0.toNatClampNeg) 0 i), u.2) hj_p0) (tyR_row A hj_p0) (vp_in_nI (by omega) (by omega)) dX3_load_81 (fun H locs hP hD hS => ?_)
              rw [nI_clamp (n := i) (by omega)] at hP hD
              have hP : va_P (dC, dI) bwCl (wR A (upR (upR u.1 p0.toNatClampNeg (flz (ldZ p1 p2 p3) (u.1 p0.toNatClampNeg) 0 i), u.2).1 p0.toNatClampNeg (upZ ((upR u.1 p0.toNatClampNeg (flz (ldZ p1 p2 p3) (u.1 p0.toNatClampNeg) 0 i), u.2).1 p0.toNatClampNeg) i false), (upR u.1 p0.toNatClampNeg (flz (ldZ p1 p2 p3) (u.1 p0.toNatClampNeg) 0 i), u.2).2)) H := stR_P (nb_0) hj_p0 hP
              have hD : va_D (aR A s.heap.size) (wR A (upR (upR u.1 p0.toNatClampNeg (flz (ldZ p1 p2 p3) (u.1 p0.toNatClampNeg) 0 i), u.2).1 p0.toNatClampNeg (upZ ((upR u.1 p0.toNatClampNeg (flz (ldZ p1 p2 p3) (u.1 p0.toNatClampNeg) 0 i), u.2).1 p0.toNatClampNeg) i false), (upR u.1 p0.toNatClampNeg (flz (ldZ p1 p2 p3) (u.1 p0.toNatClampNeg) 0 i), u.2).2)) := stR_D (nb_0) hj_p0 hD
              refine lv_iinc (v := nI (i + 1)) (lv' := [(8, .int (nI (i + 1))), (0, .ref (mh_ A)), (1, .int p0), (2, .long p1), (4, .long p2), (6, .long p3)]) hx hb dX3_load_82 hl (k := 5) rfl (nI_1 _) (by decide) rfl (fun ls hl => ?_)
              refine lv_goto (tgt := 13) hx hb dX3_load_85 (by decide) ?_
              have hv_i : (upR (upR u.1 p0.toNatClampNeg (flz (ldZ p1 p2 p3) (u.1 p0.toNatClampNeg) 0 i), u.2).1 p0.toNatClampNeg (upZ ((upR u.1 p0.toNatClampNeg (flz (ldZ p1 p2 p3) (u.1 p0.toNatClampNeg) 0 i), u.2).1 p0.toNatClampNeg) i false), (upR u.1 p0.toNatClampNeg (flz (ldZ p1 p2 p3) (u.1 p0.toNatClampNeg) 0 i), u.2).2) = (upR u.1 p0.toNatClampNeg (flz (ldZ p1 p2 p3) (u.1 p0.toNatClampNeg) 0 (i + 1)), u.2) := fz_uS _ u _ (Nat.zero_le _) (ld_f2 hlt_i c6 c7 c8 c10)
              exact ih_i _ _ _ (by omega) ⟨tr_PR hv_i hP, tr_DR hv_i hD, hS, lv_sub hl [1, 2, 3, 4, 5, 0] rfl⟩
            · refine lv_iconst (v := 1) hx hb dX3_load_76 (by decide) ?_
              refine lv_goto (tgt := 81) hx hb dX3_load_77 (by decide) ?_
              refine va_zast hx hb hK hP hD hS (4 + p0.toNatClampNeg) (3 + p0.toNatClampNeg) (wR_row A (upR u.1 p0.toNatClampNeg (flz (ldZ p1 p2 p3) (u.1 p0.toNatClampNeg) 0 i), u.2) hj_p0) (tyR_row A hj_p0) (vp_in_nI (by omega) (by omega)) dX3_load_81 (fun H locs hP hD hS => ?_)
              rw [nI_clamp (n := i) (by omega)] at hP hD
              have hP : va_P (dC, dI) bwCl (wR A (upR (upR u.1 p0.toNatClampNeg (flz (ldZ p1 p2 p3) (u.1 p0.toNatClampNeg) 0 i), u.2).1 p0.toNatClampNeg (upZ ((upR u.1 p0.toNatClampNeg (flz (ldZ p1 p2 p3) (u.1 p0.toNatClampNeg) 0 i), u.2).1 p0.toNatClampNeg) i true), (upR u.1 p0.toNatClampNeg (flz (ldZ p1 p2 p3) (u.1 p0.toNatClampNeg) 0 i), u.2).2)) H := stR_P (nb_1) hj_p0 hP
              have hD : va_D (aR A s.heap.size) (wR A (upR (upR u.1 p0.toNatClampNeg (flz (ldZ p1 p2 p3) (u.1 p0.toNatClampNeg) 0 i), u.2).1 p0.toNatClampNeg (upZ ((upR u.1 p0.toNatClampNeg (flz (ldZ p1 p2 p3) (u.1 p0.toNatClampNeg) 0 i), u.2).1 p0.toNatClampNeg) i true), (upR u.1 p0.toNatClampNeg (flz (ldZ p1 p2 p3) (u.1 p0.toNatClampNeg) 0 i), u.2).2)) := stR_D (nb_1) hj_p0 hD
              refine lv_iinc (v := nI (i + 1)) (lv' := [(8, .int (nI (i + 1))), (0, .ref (mh_ A)), (1, .int p0), (2, .long p1), (4, .long p2), (6, .long p3)]) hx hb dX3_load_82 hl (k := 5) rfl (nI_1 _) (by decide) rfl (fun ls hl => ?_)
              refine lv_goto (tgt := 13) hx hb dX3_load_85 (by decide) ?_
              have hv_i : (upR (upR u.1 p0.toNatClampNeg (flz (ldZ p1 p2 p3) (u.1 p0.toNatClampNeg) 0 i), u.2).1 p0.toNatClampNeg (upZ ((upR u.1 p0.toNatClampNeg (flz (ldZ p1 p2 p3) (u.1 p0.toNatClampNeg) 0 i), u.2).1 p0.toNatClampNeg) i true), (upR u.1 p0.toNatClampNeg (flz (ldZ p1 p2 p3) (u.1 p0.toNatClampNeg) 0 i), u.2).2) = (upR u.1 p0.toNatClampNeg (flz (ldZ p1 p2 p3) (u.1 p0.toNatClampNeg) 0 (i + 1)), u.2) := fz_uS _ u _ (Nat.zero_le _) (ld_t2 hlt_i c6 c7 c8 c10)
              exact ih_i _ _ _ (by omega) ⟨tr_PR hv_i hP, tr_DR hv_i hD, hS, lv_sub hl [1, 2, 3, 4, 5, 0] rfl⟩
        · refine lv_lload_n hx hb dX3_load_44 rfl (lv_at hl 2 rfl) ?_
          refine lv_goto (tgt := 63) hx hb dX3_load_45 (by decide) ?_
          refine lv_iload hx hb dX3_load_63 (lv_at hl 5 rfl) ?_
          refine lv_bipush (v := 64) hx hb dX3_load_65 (by decide) ?_
          refine lv_irem hx hb dX3_load_67 (by decide) ?_
          refine lv_lshr hx hb dX3_load_68 rfl ?_
          refine lv_lconst (v := 1) hx hb dX3_load_69 (by decide) ?_
          refine lv_land hx hb dX3_load_70 ?_
          refine lv_lconst (v := 1) hx hb dX3_load_71 (by decide) ?_
          refine W.lcmp hx hb dX3_load_72 ?_
          refine lv_if_ne (tgt := 80) hx hb dX3_load_73 (by decide) (fun c11 => ?_) (fun c11 => ?_)
          · refine lv_iconst (v := 0) hx hb dX3_load_80 (by decide) ?_
            refine va_zast hx hb hK hP hD hS (4 + p0.toNatClampNeg) (3 + p0.toNatClampNeg) (wR_row A (upR u.1 p0.toNatClampNeg (flz (ldZ p1 p2 p3) (u.1 p0.toNatClampNeg) 0 i), u.2) hj_p0) (tyR_row A hj_p0) (vp_in_nI (by omega) (by omega)) dX3_load_81 (fun H locs hP hD hS => ?_)
            rw [nI_clamp (n := i) (by omega)] at hP hD
            have hP : va_P (dC, dI) bwCl (wR A (upR (upR u.1 p0.toNatClampNeg (flz (ldZ p1 p2 p3) (u.1 p0.toNatClampNeg) 0 i), u.2).1 p0.toNatClampNeg (upZ ((upR u.1 p0.toNatClampNeg (flz (ldZ p1 p2 p3) (u.1 p0.toNatClampNeg) 0 i), u.2).1 p0.toNatClampNeg) i false), (upR u.1 p0.toNatClampNeg (flz (ldZ p1 p2 p3) (u.1 p0.toNatClampNeg) 0 i), u.2).2)) H := stR_P (nb_0) hj_p0 hP
            have hD : va_D (aR A s.heap.size) (wR A (upR (upR u.1 p0.toNatClampNeg (flz (ldZ p1 p2 p3) (u.1 p0.toNatClampNeg) 0 i), u.2).1 p0.toNatClampNeg (upZ ((upR u.1 p0.toNatClampNeg (flz (ldZ p1 p2 p3) (u.1 p0.toNatClampNeg) 0 i), u.2).1 p0.toNatClampNeg) i false), (upR u.1 p0.toNatClampNeg (flz (ldZ p1 p2 p3) (u.1 p0.toNatClampNeg) 0 i), u.2).2)) := stR_D (nb_0) hj_p0 hD
            refine lv_iinc (v := nI (i + 1)) (lv' := [(8, .int (nI (i + 1))), (0, .ref (mh_ A)), (1, .int p0), (2, .long p1), (4, .long p2), (6, .long p3)]) hx hb dX3_load_82 hl (k := 5) rfl (nI_1 _) (by decide) rfl (fun ls hl => ?_)
            refine lv_goto (tgt := 13) hx hb dX3_load_85 (by decide) ?_
            have hv_i : (upR (upR u.1 p0.toNatClampNeg (flz (ldZ p1 p2 p3) (u.1 p0.toNatClampNeg) 0 i), u.2).1 p0.toNatClampNeg (upZ ((upR u.1 p0.toNatClampNeg (flz (ldZ p1 p2 p3) (u.1 p0.toNatClampNeg) 0 i), u.2).1 p0.toNatClampNeg) i false), (upR u.1 p0.toNatClampNeg (flz (ldZ p1 p2 p3) (u.1 p0.toNatClampNeg) 0 i), u.2).2) = (upR u.1 p0.toNatClampNeg (flz (ldZ p1 p2 p3) (u.1 p0.toNatClampNeg) 0 (i + 1)), u.2) := fz_uS _ u _ (Nat.zero_le _) (ld_f1 hlt_i c6 c7 c11)
            exact ih_i _ _ _ (by omega) ⟨tr_PR hv_i hP, tr_DR hv_i hD, hS, lv_sub hl [1, 2, 3, 4, 5, 0] rfl⟩
          · refine lv_iconst (v := 1) hx hb dX3_load_76 (by decide) ?_
            refine lv_goto (tgt := 81) hx hb dX3_load_77 (by decide) ?_
            refine va_zast hx hb hK hP hD hS (4 + p0.toNatClampNeg) (3 + p0.toNatClampNeg) (wR_row A (upR u.1 p0.toNatClampNeg (flz (ldZ p1 p2 p3) (u.1 p0.toNatClampNeg) 0 i), u.2) hj_p0) (tyR_row A hj_p0) (vp_in_nI (by omega) (by omega)) dX3_load_81 (fun H locs hP hD hS => ?_)
            rw [nI_clamp (n := i) (by omega)] at hP hD
            have hP : va_P (dC, dI) bwCl (wR A (upR (upR u.1 p0.toNatClampNeg (flz (ldZ p1 p2 p3) (u.1 p0.toNatClampNeg) 0 i), u.2).1 p0.toNatClampNeg (upZ ((upR u.1 p0.toNatClampNeg (flz (ldZ p1 p2 p3) (u.1 p0.toNatClampNeg) 0 i), u.2).1 p0.toNatClampNeg) i true), (upR u.1 p0.toNatClampNeg (flz (ldZ p1 p2 p3) (u.1 p0.toNatClampNeg) 0 i), u.2).2)) H := stR_P (nb_1) hj_p0 hP
            have hD : va_D (aR A s.heap.size) (wR A (upR (upR u.1 p0.toNatClampNeg (flz (ldZ p1 p2 p3) (u.1 p0.toNatClampNeg) 0 i), u.2).1 p0.toNatClampNeg (upZ ((upR u.1 p0.toNatClampNeg (flz (ldZ p1 p2 p3) (u.1 p0.toNatClampNeg) 0 i), u.2).1 p0.toNatClampNeg) i true), (upR u.1 p0.toNatClampNeg (flz (ldZ p1 p2 p3) (u.1 p0.toNatClampNeg) 0 i), u.2).2)) := stR_D (nb_1) hj_p0 hD
            refine lv_iinc (v := nI (i + 1)) (lv' := [(8, .int (nI (i + 1))), (0, .ref (mh_ A)), (1, .int p0), (2, .long p1), (4, .long p2), (6, .long p3)]) hx hb dX3_load_82 hl (k := 5) rfl (nI_1 _) (by decide) rfl (fun ls hl => ?_)
            refine lv_goto (tgt := 13) hx hb dX3_load_85 (by decide) ?_
            have hv_i : (upR (upR u.1 p0.toNatClampNeg (flz (ldZ p1 p2 p3) (u.1 p0.toNatClampNeg) 0 i), u.2).1 p0.toNatClampNeg (upZ ((upR u.1 p0.toNatClampNeg (flz (ldZ p1 p2 p3) (u.1 p0.toNatClampNeg) 0 i), u.2).1 p0.toNatClampNeg) i true), (upR u.1 p0.toNatClampNeg (flz (ldZ p1 p2 p3) (u.1 p0.toNatClampNeg) 0 i), u.2).2) = (upR u.1 p0.toNatClampNeg (flz (ldZ p1 p2 p3) (u.1 p0.toNatClampNeg) 0 (i + 1)), u.2) := fz_uS _ u _ (Nat.zero_le _) (ld_t1 hlt_i c6 c7 c11)
            exact ih_i _ _ _ (by omega) ⟨tr_PR hv_i hP, tr_DR hv_i hD, hS, lv_sub hl [1, 2, 3, 4, 5, 0] rfl⟩
  · refine lv_bipush (v := -2) hx hb dX3_load_7 (by decide) ?_
    exact W.iret hx hb hr (fun t9 ht9 hW => ⟨⟨_, u, rfl, Or.inr ⟨fun h => h c1, rfl, rfl⟩, by rw [ht9]; exact hP, va_K.moved hW.alike hK, hD⟩, hS.F ht9⟩) hS.2.2 dX3_load_9
set_option maxHeartbeats 4000000 in
set_option maxRecDepth 100000 in
theorem c_X3_cut (l : Launch) (dC : Nat → ClassId) (dI : Nat → Nat → Nat) (A : AdR) (u : StR)  (p0 : Int32) (p1 : Int32) (p2 : Int32) (p3 : Int32) : gMi l yX3_cut wX3_cut ({ frames := 1, cells := 0, slots := 0, locals := 23 }) (dC, dI) bwCl (tyR A) (wR A) (aR A) [.ref (mh_ A), .int p0, .int p1, .int p2, .int p3] u (fun r v => ((¬ (fX3_isRow p0) = 0 ∧ ¬ (fX3_isRow p1) = 0 ∧ ¬ (fX3_isPiece p2 p3) = 0) ∧ (r = nI (cnt (((upR u.1 p0.toNatClampNeg (flz (flz (ctZ (u.1 p1.toNatClampNeg) p2.toNatClampNeg p3.toNatClampNeg) u.2.1 0 4032) (u.1 p0.toNatClampNeg) 0 4032), flz (ctZ (u.1 p1.toNatClampNeg) p2.toNatClampNeg p3.toNatClampNeg) u.2.1 0 4032, u.2.2) : StR).1 p0.toNatClampNeg) 4032) ∧ ((upR u.1 p0.toNatClampNeg (flz (flz (ctZ (u.1 p1.toNatClampNeg) p2.toNatClampNeg p3.toNatClampNeg) u.2.1 0 4032) (u.1 p0.toNatClampNeg) 0 4032), flz (ctZ (u.1 p1.toNatClampNeg) p2.toNatClampNeg p3.toNatClampNeg) u.2.1 0 4032, u.2.2) : StR) = v)) ∨ (¬ (¬ (fX3_isRow p0) = 0 ∧ ¬ (fX3_isRow p1) = 0 ∧ ¬ (fX3_isPiece p2 p3) = 0) ∧ r = -2 ∧ u = v)) := by
  unfold gMi
  intro sz
  refine Met.ofW (cc := cX3_cut) (maxL := 6) (ret := (some .int)) (by decide) rfl ?_
  intro p e s m args below meth c s₁ B hml hv
  obtain ⟨rfl, hsz, hP, hK, hD⟩ := hv
  subst hsz
  have hS : va_S (aR A s.heap.size) s.heap s.heap [] := va_S.rf
  have hx := B.exec
  have hb := B.bytes
  have hr := B.returns
  have hts := atoms_spec (ws := wX3_cut) B.pre
  have hw : ∀ w ∈ tg_, w.before _ s = true := fun w h => hts w (List.mem_cons_of_mem _ h)
  have hown : s.vm.findClass RX3 = some m.cls := findClass_of_methodNamed B.named
  have hlocks := B.notSynchronized
  have hl := lv_entry ([.ref (mh_ A), .int p0, .int p1, .int p2, .int p3]) (n := 6) (Nat.le_of_ble_eq_true rfl)
  rw [lg_entry_eq]
  generalize (lg_sl ([.ref (mh_ A), .int p0, .int p1, .int p2, .int p3]) ++ List.replicate (6 - (lg_sl ([.ref (mh_ A), .int p0, .int p1, .int p2, .int p3])).length) Slot.unset).toArray = ls at hl ⊢
  have hl : lv_has ls 6 [(0, .ref (mh_ A)), (1, .int p0), (2, .int p1), (3, .int p2), (4, .int p3)] := hl
  refine lv_iload_n hx hb dX3_cut_0 rfl (lv_at hl 1 rfl) ?_
  refine vp_callSi (W.runS (As := [.int p0]) (rest := []) ⟨hx, hb, hml, hown, hts⟩ (c_X3_isRow l p0) (va_cwS 1 hts (gi_S hbc tw_261 tw_262 tw_4 tw_263) rfl rfl rfl (by decide +kernel) ⟨Nat.le_of_ble_eq_true rfl, Nat.le_of_ble_eq_true rfl⟩) preEq rfl rfl hl.1 rfl (lv_room (Nat.le_of_ble_eq_true rfl)) dX3_cut_1 ⟨Nat.le_of_ble_eq_true rfl, Nat.le_of_ble_eq_true rfl⟩) (fun r hq => ?_)
  subst hq
  refine lv_if_eq (tgt := 23) hx hb dX3_cut_4 (by decide) (fun c1 => ?_) (fun c1 => ?_)
  · refine lv_bipush (v := -2) hx hb dX3_cut_23 (by decide) ?_
    exact W.iret hx hb hr (fun t9 ht9 hW => ⟨⟨_, u, rfl, Or.inr ⟨fun h => h.1 c1, rfl, rfl⟩, by rw [ht9]; exact hP, va_K.moved hW.alike hK, hD⟩, hS.F ht9⟩) hS.2.2 dX3_cut_25
  · have hj_p0 := row_lt (p := p0) c1
    refine lv_iload_n hx hb dX3_cut_7 rfl (lv_at hl 2 rfl) ?_
    refine vp_callSi (W.runS (As := [.int p1]) (rest := []) ⟨hx, hb, hml, hown, hts⟩ (c_X3_isRow l p1) (va_cwS 1 hts (gi_S hbc tw_261 tw_262 tw_4 tw_263) rfl rfl rfl (by decide +kernel) ⟨Nat.le_of_ble_eq_true rfl, Nat.le_of_ble_eq_true rfl⟩) preEq rfl rfl hl.1 rfl (lv_room (Nat.le_of_ble_eq_true rfl)) dX3_cut_8 ⟨Nat.le_of_ble_eq_true rfl, Nat.le_of_ble_eq_true rfl⟩) (fun r hq => ?_)
    subst hq
    refine lv_if_eq (tgt := 23) hx hb dX3_cut_11 (by decide) (fun c2 => ?_) (fun c2 => ?_)
    · refine lv_bipush (v := -2) hx hb dX3_cut_23 (by decide) ?_
      exact W.iret hx hb hr (fun t9 ht9 hW => ⟨⟨_, u, rfl, Or.inr ⟨fun h => h.2.1 c2, rfl, rfl⟩, by rw [ht9]; exact hP, va_K.moved hW.alike hK, hD⟩, hS.F ht9⟩) hS.2.2 dX3_cut_25
    · have hj_p1 := row_lt (p := p1) c2
      refine lv_iload_n hx hb dX3_cut_14 rfl (lv_at hl 3 rfl) ?_
      refine lv_iload hx hb dX3_cut_15 (lv_at hl 4 rfl) ?_
      refine vp_callSi (W.runS (As := [.int p2, .int p3]) (rest := []) ⟨hx, hb, hml, hown, hts⟩ (c_X3_isPiece l p2 p3) (va_cwS 2 hts (gi_S hbc tw_274 tw_275 tw_4 tw_276) rfl rfl rfl (by decide +kernel) ⟨Nat.le_of_ble_eq_true rfl, Nat.le_of_ble_eq_true rfl⟩) preEq rfl rfl hl.1 rfl (lv_room (Nat.le_of_ble_eq_true rfl)) dX3_cut_17 ⟨Nat.le_of_ble_eq_true rfl, Nat.le_of_ble_eq_true rfl⟩) (fun r hq => ?_)
      subst hq
      refine lv_if_ne (tgt := 26) hx hb dX3_cut_20 (by decide) (fun c3 => ?_) (fun c3 => ?_)
      · have hpc := pc_ab c3
        refine lv_iconst (v := 0) hx hb dX3_cut_26 (by decide) ?_
        refine lv_istore (lv' := [(5, .int 0), (0, .ref (mh_ A)), (1, .int p0), (2, .int p1), (3, .int p2), (4, .int p3)]) hx hb dX3_cut_27 hl (by decide) rfl (fun ls hl => ?_)
        have hu_i : u = (u.1, flz (ctZ (u.1 p1.toNatClampNeg) p2.toNatClampNeg p3.toNatClampNeg) u.2.1 0 0, u.2.2) := fq_u0 _ u
        refine w_loop (N := 4032) (i0 := 0) (fun i H locs ls => va_P (dC, dI) bwCl (wR A (u.1, flz (ctZ (u.1 p1.toNatClampNeg) p2.toNatClampNeg p3.toNatClampNeg) u.2.1 0 i, u.2.2)) H ∧ va_D (aR A s.heap.size) (wR A (u.1, flz (ctZ (u.1 p1.toNatClampNeg) p2.toNatClampNeg p3.toNatClampNeg) u.2.1 0 i, u.2.2)) ∧ va_S (aR A s.heap.size) s.heap H locs ∧ lv_has ls 6 [(0, .ref (mh_ A)), (1, .int p0), (2, .int p1), (3, .int p2), (4, .int p3), (5, .int (nI i))]) (by decide) ⟨tr_PR hu_i hP, tr_DR hu_i hD, hS, lv_sub hl [1, 2, 3, 4, 5, 0] rfl⟩ ?_
        intro i H locs ls hz_i hi_i hI ih_i
        obtain ⟨hP, hD, hS, hl⟩ := hI
        refine lv_iload hx hb dX3_cut_29 (lv_at hl 5 rfl) ?_
        refine lv_sipush (v := 4032) hx hb dX3_cut_31 (by decide) ?_
        refine lv_icmp_ge (tgt := 78) hx hb dX3_cut_34 (by decide) (fun c4 => ?_) (fun c4 => ?_)
        · obtain rfl : i = 4032 := lp_out (n := 4032) rfl hi_i (by decide) c4
          refine lv_iconst (v := 0) hx hb dX3_cut_78 (by decide) ?_
          refine lv_istore (lv' := [(5, .int 0), (0, .ref (mh_ A)), (1, .int p0), (2, .int p1), (3, .int p2), (4, .int p3)]) hx hb dX3_cut_79 hl (by decide) rfl (fun ls hl => ?_)
          have hu_k : (u.1, flz (ctZ (u.1 p1.toNatClampNeg) p2.toNatClampNeg p3.toNatClampNeg) u.2.1 0 4032, u.2.2) = (upR u.1 p0.toNatClampNeg (flz (flz (ctZ (u.1 p1.toNatClampNeg) p2.toNatClampNeg p3.toNatClampNeg) u.2.1 0 4032) (u.1 p0.toNatClampNeg) 0 0), flz (ctZ (u.1 p1.toNatClampNeg) p2.toNatClampNeg p3.toNatClampNeg) u.2.1 0 4032, u.2.2) := fk_u0 _ _ u _
          refine w_loop (N := 4032) (i0 := 0) (fun k H locs ls => va_P (dC, dI) bwCl (wR A (upR u.1 p0.toNatClampNeg (flz (flz (ctZ (u.1 p1.toNatClampNeg) p2.toNatClampNeg p3.toNatClampNeg) u.2.1 0 4032) (u.1 p0.toNatClampNeg) 0 k), flz (ctZ (u.1 p1.toNatClampNeg) p2.toNatClampNeg p3.toNatClampNeg) u.2.1 0 4032, u.2.2)) H ∧ va_D (aR A s.heap.size) (wR A (upR u.1 p0.toNatClampNeg (flz (flz (ctZ (u.1 p1.toNatClampNeg) p2.toNatClampNeg p3.toNatClampNeg) u.2.1 0 4032) (u.1 p0.toNatClampNeg) 0 k), flz (ctZ (u.1 p1.toNatClampNeg) p2.toNatClampNeg p3.toNatClampNeg) u.2.1 0 4032, u.2.2)) ∧ va_S (aR A s.heap.size) s.heap H locs ∧ lv_has ls 6 [(0, .ref (mh_ A)), (1, .int p0), (2, .int p1), (3, .int p2), (4, .int p3), (5, .int (nI k))]) (by decide) ⟨tr_PR hu_k hP, tr_DR hu_k hD, hS, lv_sub hl [1, 2, 3, 4, 5, 0] rfl⟩ ?_
          intro k H locs ls hz_k hi_k hI ih_k
          obtain ⟨hP, hD, hS, hl⟩ := hI
          refine lv_iload hx hb dX3_cut_81 (lv_at hl 5 rfl) ?_
          refine lv_sipush (v := 4032) hx hb dX3_cut_83 (by decide) ?_
          refine lv_icmp_ge (tgt := 111) hx hb dX3_cut_86 (by decide) (fun c5 => ?_) (fun c5 => ?_)
          · obtain rfl : k = 4032 := lp_out (n := 4032) rfl hi_k (by decide) c5
            refine lv_aload_n hx hb dX3_cut_111 rfl (lv_at hl 0 rfl) ?_
            refine lv_iload_n hx hb dX3_cut_112 rfl (lv_at hl 1 rfl) ?_
            refine gVi (As := [.int p0]) (rest := []) ⟨hx, hb, hml, hown, hts⟩ (c_X3_ones l dC dI A (upR u.1 p0.toNatClampNeg (flz (flz (ctZ (u.1 p1.toNatClampNeg) p2.toNatClampNeg p3.toNatClampNeg) u.2.1 0 4032) (u.1 p0.toNatClampNeg) 0 4032), flz (ctZ (u.1 p1.toNatClampNeg) p2.toNatClampNeg p3.toNatClampNeg) u.2.1 0 4032, u.2.2) p0 hj_p0 (row_in (p := p0) c1)) (cwV 1 hts (gi_V hbc tw_277 tw_279 ts_4 tw_4 tw_280) rfl rfl rfl (by decide +kernel) ⟨Nat.le_of_ble_eq_true rfl, Nat.le_of_ble_eq_true rfl⟩) (va_recv hK hP (ci := 3) (q0 := 0) rfl rfl) aR_mono aR_D hP hK hD hS rfl hl.1 rfl (Nat.le_of_ble_eq_true rfl) dX3_cut_113 ⟨Nat.le_of_ble_eq_true rfl, Nat.le_of_ble_eq_true rfl⟩ (fun r6 v8 H locs hq7 hP hD hS => ?_)
            obtain ⟨rfl, rfl⟩ := hq7
            exact W.iret hx hb hr (fun t9 ht9 hW => ⟨⟨_, (upR u.1 p0.toNatClampNeg (flz (flz (ctZ (u.1 p1.toNatClampNeg) p2.toNatClampNeg p3.toNatClampNeg) u.2.1 0 4032) (u.1 p0.toNatClampNeg) 0 4032), flz (ctZ (u.1 p1.toNatClampNeg) p2.toNatClampNeg p3.toNatClampNeg) u.2.1 0 4032, u.2.2), rfl, Or.inl ⟨⟨c1, c2, c3⟩, ⟨rfl, rfl⟩⟩, by rw [ht9]; exact hP, va_K.moved hW.alike hK, hD⟩, hS.F ht9⟩) hS.2.2 dX3_cut_116
          · have hlt_k : k < 4032 := lp_in (n := 4032) rfl hi_k c5
            refine lv_aload_n hx hb dX3_cut_89 rfl (lv_at hl 0 rfl) ?_
            refine va_get (D := (dC, dI)) (ci := 3) (v := .ref (mq_ A)) (C := RX3) (T := TX3) (N := 4) hx hb hw igX3 hown hK hP 0 rfl rfl 0 (by decide) (hw _ tw_242) (fun _ h9 => h9) rfl dX3_cut_90 ?_
            refine lv_iload_n hx hb dX3_cut_93 rfl (lv_at hl 1 rfl) ?_
            refine va_aldz hx hb hK hP 1 0 rfl rfl (row_in (p := p0) c1) dX3_cut_94 ?_
            rw [mqF_at A hj_p0]
            refine lv_iload hx hb dX3_cut_95 (lv_at hl 5 rfl) ?_
            refine lv_aload_n hx hb dX3_cut_97 rfl (lv_at hl 0 rfl) ?_
            refine va_get (D := (dC, dI)) (ci := 3) (v := .ref (mp_ A)) (C := RX3) (T := TX3) (N := 4) hx hb hw igX3 hown hK hP 0 rfl rfl 1 (by decide) (hw _ tw_243) (fun _ h9 => h9) rfl dX3_cut_98 ?_
            refine lv_iload hx hb dX3_cut_101 (lv_at hl 5 rfl) ?_
            refine va_zald hx hb hK hP 2 1 rfl rfl (vp_in_nI (by omega) (by omega)) dX3_cut_103 ?_
            rw [nI_clamp (n := k) (by omega)]
            refine lv_topi (fun z9 ez9 => ?_)
            obtain rfl : z9 = bz (flz (ctZ (u.1 p1.toNatClampNeg) p2.toNatClampNeg p3.toNatClampNeg) u.2.1 0 4032) k := ez9.trans rfl
            refine va_zast hx hb hK hP hD hS (4 + p0.toNatClampNeg) (3 + p0.toNatClampNeg) (wR_row A (upR u.1 p0.toNatClampNeg (flz (flz (ctZ (u.1 p1.toNatClampNeg) p2.toNatClampNeg p3.toNatClampNeg) u.2.1 0 4032) (u.1 p0.toNatClampNeg) 0 k), flz (ctZ (u.1 p1.toNatClampNeg) p2.toNatClampNeg p3.toNatClampNeg) u.2.1 0 4032, u.2.2) hj_p0) (tyR_row A hj_p0) (vp_in_nI (by omega) (by omega)) dX3_cut_104 (fun H locs hP hD hS => ?_)
            rw [nI_clamp (n := k) (by omega)] at hP hD
            have hP : va_P (dC, dI) bwCl (wR A (upR (upR u.1 p0.toNatClampNeg (flz (flz (ctZ (u.1 p1.toNatClampNeg) p2.toNatClampNeg p3.toNatClampNeg) u.2.1 0 4032) (u.1 p0.toNatClampNeg) 0 k), flz (ctZ (u.1 p1.toNatClampNeg) p2.toNatClampNeg p3.toNatClampNeg) u.2.1 0 4032, u.2.2).1 p0.toNatClampNeg (upZ ((upR u.1 p0.toNatClampNeg (flz (flz (ctZ (u.1 p1.toNatClampNeg) p2.toNatClampNeg p3.toNatClampNeg) u.2.1 0 4032) (u.1 p0.toNatClampNeg) 0 k), flz (ctZ (u.1 p1.toNatClampNeg) p2.toNatClampNeg p3.toNatClampNeg) u.2.1 0 4032, u.2.2).1 p0.toNatClampNeg) k ((flz (ctZ (u.1 p1.toNatClampNeg) p2.toNatClampNeg p3.toNatClampNeg) u.2.1 0 4032) k)), (upR u.1 p0.toNatClampNeg (flz (flz (ctZ (u.1 p1.toNatClampNeg) p2.toNatClampNeg p3.toNatClampNeg) u.2.1 0 4032) (u.1 p0.toNatClampNeg) 0 k), flz (ctZ (u.1 p1.toNatClampNeg) p2.toNatClampNeg p3.toNatClampNeg) u.2.1 0 4032, u.2.2).2)) H := stR_P (nb_b _) hj_p0 hP
            have hD : va_D (aR A s.heap.size) (wR A (upR (upR u.1 p0.toNatClampNeg (flz (flz (ctZ (u.1 p1.toNatClampNeg) p2.toNatClampNeg p3.toNatClampNeg) u.2.1 0 4032) (u.1 p0.toNatClampNeg) 0 k), flz (ctZ (u.1 p1.toNatClampNeg) p2.toNatClampNeg p3.toNatClampNeg) u.2.1 0 4032, u.2.2).1 p0.toNatClampNeg (upZ ((upR u.1 p0.toNatClampNeg (flz (flz (ctZ (u.1 p1.toNatClampNeg) p2.toNatClampNeg p3.toNatClampNeg) u.2.1 0 4032) (u.1 p0.toNatClampNeg) 0 k), flz (ctZ (u.1 p1.toNatClampNeg) p2.toNatClampNeg p3.toNatClampNeg) u.2.1 0 4032, u.2.2).1 p0.toNatClampNeg) k ((flz (ctZ (u.1 p1.toNatClampNeg) p2.toNatClampNeg p3.toNatClampNeg) u.2.1 0 4032) k)), (upR u.1 p0.toNatClampNeg (flz (flz (ctZ (u.1 p1.toNatClampNeg) p2.toNatClampNeg p3.toNatClampNeg) u.2.1 0 4032) (u.1 p0.toNatClampNeg) 0 k), flz (ctZ (u.1 p1.toNatClampNeg) p2.toNatClampNeg p3.toNatClampNeg) u.2.1 0 4032, u.2.2).2)) := stR_D (nb_b _) hj_p0 hD
            refine lv_iinc (v := nI (k + 1)) (lv' := [(5, .int (nI (k + 1))), (0, .ref (mh_ A)), (1, .int p0), (2, .int p1), (3, .int p2), (4, .int p3)]) hx hb dX3_cut_105 hl (k := 5) rfl (nI_1 _) (by decide) rfl (fun ls hl => ?_)
            refine lv_goto (tgt := 81) hx hb dX3_cut_108 (by decide) ?_
            have hv_k : (upR (upR u.1 p0.toNatClampNeg (flz (flz (ctZ (u.1 p1.toNatClampNeg) p2.toNatClampNeg p3.toNatClampNeg) u.2.1 0 4032) (u.1 p0.toNatClampNeg) 0 k), flz (ctZ (u.1 p1.toNatClampNeg) p2.toNatClampNeg p3.toNatClampNeg) u.2.1 0 4032, u.2.2).1 p0.toNatClampNeg (upZ ((upR u.1 p0.toNatClampNeg (flz (flz (ctZ (u.1 p1.toNatClampNeg) p2.toNatClampNeg p3.toNatClampNeg) u.2.1 0 4032) (u.1 p0.toNatClampNeg) 0 k), flz (ctZ (u.1 p1.toNatClampNeg) p2.toNatClampNeg p3.toNatClampNeg) u.2.1 0 4032, u.2.2).1 p0.toNatClampNeg) k ((flz (ctZ (u.1 p1.toNatClampNeg) p2.toNatClampNeg p3.toNatClampNeg) u.2.1 0 4032) k)), (upR u.1 p0.toNatClampNeg (flz (flz (ctZ (u.1 p1.toNatClampNeg) p2.toNatClampNeg p3.toNatClampNeg) u.2.1 0 4032) (u.1 p0.toNatClampNeg) 0 k), flz (ctZ (u.1 p1.toNatClampNeg) p2.toNatClampNeg p3.toNatClampNeg) u.2.1 0 4032, u.2.2).2) = (upR u.1 p0.toNatClampNeg (flz (flz (ctZ (u.1 p1.toNatClampNeg) p2.toNatClampNeg p3.toNatClampNeg) u.2.1 0 4032) (u.1 p0.toNatClampNeg) 0 (k + 1)), flz (ctZ (u.1 p1.toNatClampNeg) p2.toNatClampNeg p3.toNatClampNeg) u.2.1 0 4032, u.2.2) := fk_uS _ _ u _
            exact ih_k _ _ _ (by omega) ⟨tr_PR hv_k hP, tr_DR hv_k hD, hS, lv_sub hl [1, 2, 3, 4, 5, 0] rfl⟩
        · have hlt_i : i < 4032 := lp_in (n := 4032) rfl hi_i c4
          refine lv_aload_n hx hb dX3_cut_37 rfl (lv_at hl 0 rfl) ?_
          refine va_get (D := (dC, dI)) (ci := 3) (v := .ref (mp_ A)) (C := RX3) (T := TX3) (N := 4) hx hb hw igX3 hown hK hP 0 rfl rfl 1 (by decide) (hw _ tw_243) (fun _ h9 => h9) rfl dX3_cut_38 ?_
          refine lv_iload hx hb dX3_cut_41 (lv_at hl 5 rfl) ?_
          refine lv_iload hx hb dX3_cut_43 (lv_at hl 5 rfl) ?_
          refine lv_iload hx hb dX3_cut_45 (lv_at hl 4 rfl) ?_
          refine lv_iload_n hx hb dX3_cut_47 rfl (lv_at hl 3 rfl) ?_
          refine lv_isub hx hb dX3_cut_48 ?_
          refine lv_icmp_ge (tgt := 70) hx hb dX3_cut_49 (by decide) (fun c10 => ?_) (fun c10 => ?_)
          · refine lv_iconst (v := 0) hx hb dX3_cut_70 (by decide) ?_
            refine va_zast hx hb hK hP hD hS 2 1 rfl rfl (vp_in_nI (by omega) (by omega)) dX3_cut_71 (fun H locs hP hD hS => ?_)
            rw [nI_clamp (n := i) (by omega)] at hP hD
            have hP : va_P (dC, dI) bwCl (wR A ((u.1, flz (ctZ (u.1 p1.toNatClampNeg) p2.toNatClampNeg p3.toNatClampNeg) u.2.1 0 i, u.2.2).1, upZ (u.1, flz (ctZ (u.1 p1.toNatClampNeg) p2.toNatClampNeg p3.toNatClampNeg) u.2.1 0 i, u.2.2).2.1 i false, (u.1, flz (ctZ (u.1 p1.toNatClampNeg) p2.toNatClampNeg p3.toNatClampNeg) u.2.1 0 i, u.2.2).2.2)) H := stp_P (nb_0) hP
            have hD : va_D (aR A s.heap.size) (wR A ((u.1, flz (ctZ (u.1 p1.toNatClampNeg) p2.toNatClampNeg p3.toNatClampNeg) u.2.1 0 i, u.2.2).1, upZ (u.1, flz (ctZ (u.1 p1.toNatClampNeg) p2.toNatClampNeg p3.toNatClampNeg) u.2.1 0 i, u.2.2).2.1 i false, (u.1, flz (ctZ (u.1 p1.toNatClampNeg) p2.toNatClampNeg p3.toNatClampNeg) u.2.1 0 i, u.2.2).2.2)) := stp_D (nb_0) hD
            refine lv_iinc (v := nI (i + 1)) (lv' := [(5, .int (nI (i + 1))), (0, .ref (mh_ A)), (1, .int p0), (2, .int p1), (3, .int p2), (4, .int p3)]) hx hb dX3_cut_72 hl (k := 5) rfl (nI_1 _) (by decide) rfl (fun ls hl => ?_)
            refine lv_goto (tgt := 29) hx hb dX3_cut_75 (by decide) ?_
            have hv_i : ((u.1, flz (ctZ (u.1 p1.toNatClampNeg) p2.toNatClampNeg p3.toNatClampNeg) u.2.1 0 i, u.2.2).1, upZ (u.1, flz (ctZ (u.1 p1.toNatClampNeg) p2.toNatClampNeg p3.toNatClampNeg) u.2.1 0 i, u.2.2).2.1 i false, (u.1, flz (ctZ (u.1 p1.toNatClampNeg) p2.toNatClampNeg p3.toNatClampNeg) u.2.1 0 i, u.2.2).2.2) = (u.1, flz (ctZ (u.1 p1.toNatClampNeg) p2.toNatClampNeg p3.toNatClampNeg) u.2.1 0 (i + 1), u.2.2) := fq_uS _ u (ct_hi hpc hlt_i c10)
            exact ih_i _ _ _ (by omega) ⟨tr_PR hv_i hP, tr_DR hv_i hD, hS, lv_sub hl [1, 2, 3, 4, 5, 0] rfl⟩
          · refine lv_aload_n hx hb dX3_cut_52 rfl (lv_at hl 0 rfl) ?_
            refine va_get (D := (dC, dI)) (ci := 3) (v := .ref (mq_ A)) (C := RX3) (T := TX3) (N := 4) hx hb hw igX3 hown hK hP 0 rfl rfl 0 (by decide) (hw _ tw_242) (fun _ h9 => h9) rfl dX3_cut_53 ?_
            refine lv_iload_n hx hb dX3_cut_56 rfl (lv_at hl 2 rfl) ?_
            refine va_aldz hx hb hK hP 1 0 rfl rfl (row_in (p := p1) c2) dX3_cut_57 ?_
            rw [mqF_at A hj_p1]
            refine lv_iload_n hx hb dX3_cut_58 rfl (lv_at hl 3 rfl) ?_
            refine lv_iload hx hb dX3_cut_59 (lv_at hl 5 rfl) ?_
            refine lv_iadd hx hb dX3_cut_61 ?_
            have hib := ct_lt hpc hlt_i c10
            refine lv_topi (fun z11 ez11 => ?_)
            obtain rfl : z11 = nI (p2.toNatClampNeg + i) := ez11.trans (ct_ix hpc)
            refine va_zald hx hb hK hP (4 + p1.toNatClampNeg) (3 + p1.toNatClampNeg) (wR_row A (u.1, flz (ctZ (u.1 p1.toNatClampNeg) p2.toNatClampNeg p3.toNatClampNeg) u.2.1 0 i, u.2.2) hj_p1) (tyR_row A hj_p1) (vp_in_nI (by omega) (by omega)) dX3_cut_62 ?_
            rw [nI_clamp (n := (p2.toNatClampNeg + i)) (by omega)]
            refine lv_topi (fun z12 ez12 => ?_)
            obtain rfl : z12 = bz (u.1 p1.toNatClampNeg) (p2.toNatClampNeg + i) := ez12.trans rfl
            refine lv_if_eq (tgt := 70) hx hb dX3_cut_63 (by decide) (fun c13 => ?_) (fun c13 => ?_)
            · have c13 := b1f (b := _) c13
              refine lv_iconst (v := 0) hx hb dX3_cut_70 (by decide) ?_
              refine va_zast hx hb hK hP hD hS 2 1 rfl rfl (vp_in_nI (by omega) (by omega)) dX3_cut_71 (fun H locs hP hD hS => ?_)
              rw [nI_clamp (n := i) (by omega)] at hP hD
              have hP : va_P (dC, dI) bwCl (wR A ((u.1, flz (ctZ (u.1 p1.toNatClampNeg) p2.toNatClampNeg p3.toNatClampNeg) u.2.1 0 i, u.2.2).1, upZ (u.1, flz (ctZ (u.1 p1.toNatClampNeg) p2.toNatClampNeg p3.toNatClampNeg) u.2.1 0 i, u.2.2).2.1 i false, (u.1, flz (ctZ (u.1 p1.toNatClampNeg) p2.toNatClampNeg p3.toNatClampNeg) u.2.1 0 i, u.2.2).2.2)) H := stp_P (nb_0) hP
              have hD : va_D (aR A s.heap.size) (wR A ((u.1, flz (ctZ (u.1 p1.toNatClampNeg) p2.toNatClampNeg p3.toNatClampNeg) u.2.1 0 i, u.2.2).1, upZ (u.1, flz (ctZ (u.1 p1.toNatClampNeg) p2.toNatClampNeg p3.toNatClampNeg) u.2.1 0 i, u.2.2).2.1 i false, (u.1, flz (ctZ (u.1 p1.toNatClampNeg) p2.toNatClampNeg p3.toNatClampNeg) u.2.1 0 i, u.2.2).2.2)) := stp_D (nb_0) hD
              refine lv_iinc (v := nI (i + 1)) (lv' := [(5, .int (nI (i + 1))), (0, .ref (mh_ A)), (1, .int p0), (2, .int p1), (3, .int p2), (4, .int p3)]) hx hb dX3_cut_72 hl (k := 5) rfl (nI_1 _) (by decide) rfl (fun ls hl => ?_)
              refine lv_goto (tgt := 29) hx hb dX3_cut_75 (by decide) ?_
              have hv_i : ((u.1, flz (ctZ (u.1 p1.toNatClampNeg) p2.toNatClampNeg p3.toNatClampNeg) u.2.1 0 i, u.2.2).1, upZ (u.1, flz (ctZ (u.1 p1.toNatClampNeg) p2.toNatClampNeg p3.toNatClampNeg) u.2.1 0 i, u.2.2).2.1 i false, (u.1, flz (ctZ (u.1 p1.toNatClampNeg) p2.toNatClampNeg p3.toNatClampNeg) u.2.1 0 i, u.2.2).2.2) = (u.1, flz (ctZ (u.1 p1.toNatClampNeg) p2.toNatClampNeg p3.toNatClampNeg) u.2.1 0 (i + 1), u.2.2) := fq_uS _ u (ct_f hpc hlt_i c10 c13)
              exact ih_i _ _ _ (by omega) ⟨tr_PR hv_i hP, tr_DR hv_i hD, hS, lv_sub hl [1, 2, 3, 4, 5, 0] rfl⟩
            · have c13 := b1t (b := _) c13
              refine lv_iconst (v := 1) hx hb dX3_cut_66 (by decide) ?_
              refine lv_goto (tgt := 71) hx hb dX3_cut_67 (by decide) ?_
              refine va_zast hx hb hK hP hD hS 2 1 rfl rfl (vp_in_nI (by omega) (by omega)) dX3_cut_71 (fun H locs hP hD hS => ?_)
              rw [nI_clamp (n := i) (by omega)] at hP hD
              have hP : va_P (dC, dI) bwCl (wR A ((u.1, flz (ctZ (u.1 p1.toNatClampNeg) p2.toNatClampNeg p3.toNatClampNeg) u.2.1 0 i, u.2.2).1, upZ (u.1, flz (ctZ (u.1 p1.toNatClampNeg) p2.toNatClampNeg p3.toNatClampNeg) u.2.1 0 i, u.2.2).2.1 i true, (u.1, flz (ctZ (u.1 p1.toNatClampNeg) p2.toNatClampNeg p3.toNatClampNeg) u.2.1 0 i, u.2.2).2.2)) H := stp_P (nb_1) hP
              have hD : va_D (aR A s.heap.size) (wR A ((u.1, flz (ctZ (u.1 p1.toNatClampNeg) p2.toNatClampNeg p3.toNatClampNeg) u.2.1 0 i, u.2.2).1, upZ (u.1, flz (ctZ (u.1 p1.toNatClampNeg) p2.toNatClampNeg p3.toNatClampNeg) u.2.1 0 i, u.2.2).2.1 i true, (u.1, flz (ctZ (u.1 p1.toNatClampNeg) p2.toNatClampNeg p3.toNatClampNeg) u.2.1 0 i, u.2.2).2.2)) := stp_D (nb_1) hD
              refine lv_iinc (v := nI (i + 1)) (lv' := [(5, .int (nI (i + 1))), (0, .ref (mh_ A)), (1, .int p0), (2, .int p1), (3, .int p2), (4, .int p3)]) hx hb dX3_cut_72 hl (k := 5) rfl (nI_1 _) (by decide) rfl (fun ls hl => ?_)
              refine lv_goto (tgt := 29) hx hb dX3_cut_75 (by decide) ?_
              have hv_i : ((u.1, flz (ctZ (u.1 p1.toNatClampNeg) p2.toNatClampNeg p3.toNatClampNeg) u.2.1 0 i, u.2.2).1, upZ (u.1, flz (ctZ (u.1 p1.toNatClampNeg) p2.toNatClampNeg p3.toNatClampNeg) u.2.1 0 i, u.2.2).2.1 i true, (u.1, flz (ctZ (u.1 p1.toNatClampNeg) p2.toNatClampNeg p3.toNatClampNeg) u.2.1 0 i, u.2.2).2.2) = (u.1, flz (ctZ (u.1 p1.toNatClampNeg) p2.toNatClampNeg p3.toNatClampNeg) u.2.1 0 (i + 1), u.2.2) := fq_uS _ u (ct_t hpc hlt_i c10 c13)
              exact ih_i _ _ _ (by omega) ⟨tr_PR hv_i hP, tr_DR hv_i hD, hS, lv_sub hl [1, 2, 3, 4, 5, 0] rfl⟩
      · refine lv_bipush (v := -2) hx hb dX3_cut_23 (by decide) ?_
        exact W.iret hx hb hr (fun t9 ht9 hW => ⟨⟨_, u, rfl, Or.inr ⟨fun h => h.2.2 c3, rfl, rfl⟩, by rw [ht9]; exact hP, va_K.moved hW.alike hK, hD⟩, hS.F ht9⟩) hS.2.2 dX3_cut_25
set_option maxHeartbeats 4000000 in
set_option maxRecDepth 100000 in
theorem c_X3_look (l : Launch) (dC : Nat → ClassId) (dI : Nat → Nat → Nat) (A : AdR) (u : StR)  (p0 : Int32) (p1 : Int32) : gMi l yX3_look wX3_look ({ frames := 1, cells := 0, slots := 0, locals := 23 }) (dC, dI) bwCl (tyR A) (wR A) (aR A) [.ref (mh_ A), .int p0, .int p1] u (fun r v => ((¬ (fX3_isRow p0) = 0 ∧ ¬ p1 < 0 ∧ p1 ≤ 2) ∧ ((p1 = 0 ∧ r = nI (cnt (u.1 p0.toNatClampNeg) 4032)) ∨ ((¬ p1 = 0 ∧ p1 = 1) ∧ peR (u.1 p0.toNatClampNeg) r) ∨ ((¬ p1 = 0 ∧ ¬ p1 = 1) ∧ ∃ q, peR (u.1 p0.toNatClampNeg) q ∧ ((q = 0 ∧ r = 1) ∨ (¬ q = 0 ∧ r = 0)))) ∧ u = v) ∨ (¬ (¬ (fX3_isRow p0) = 0 ∧ ¬ p1 < 0 ∧ p1 ≤ 2) ∧ r = -2 ∧ u = v)) := by
  unfold gMi
  intro sz
  refine Met.ofW (cc := cX3_look) (maxL := 3) (ret := (some .int)) (by decide) rfl ?_
  intro p e s m args below meth c s₁ B hml hv
  obtain ⟨rfl, hsz, hP, hK, hD⟩ := hv
  subst hsz
  have hS : va_S (aR A s.heap.size) s.heap s.heap [] := va_S.rf
  have hx := B.exec
  have hb := B.bytes
  have hr := B.returns
  have hts := atoms_spec (ws := wX3_look) B.pre
  have hw : ∀ w ∈ tg_, w.before _ s = true := fun w h => hts w (List.mem_cons_of_mem _ h)
  have hown : s.vm.findClass RX3 = some m.cls := findClass_of_methodNamed B.named
  have hlocks := B.notSynchronized
  have hl := lv_entry ([.ref (mh_ A), .int p0, .int p1]) (n := 3) (Nat.le_of_ble_eq_true rfl)
  rw [lg_entry_eq]
  generalize (lg_sl ([.ref (mh_ A), .int p0, .int p1]) ++ List.replicate (3 - (lg_sl ([.ref (mh_ A), .int p0, .int p1])).length) Slot.unset).toArray = ls at hl ⊢
  have hl : lv_has ls 3 [(0, .ref (mh_ A)), (1, .int p0), (2, .int p1)] := hl
  refine lv_iload_n hx hb dX3_look_0 rfl (lv_at hl 1 rfl) ?_
  refine vp_callSi (W.runS (As := [.int p0]) (rest := []) ⟨hx, hb, hml, hown, hts⟩ (c_X3_isRow l p0) (va_cwS 1 hts (gi_S hbc tw_261 tw_262 tw_4 tw_263) rfl rfl rfl (by decide +kernel) ⟨Nat.le_of_ble_eq_true rfl, Nat.le_of_ble_eq_true rfl⟩) preEq rfl rfl hl.1 rfl (lv_room (Nat.le_of_ble_eq_true rfl)) dX3_look_1 ⟨Nat.le_of_ble_eq_true rfl, Nat.le_of_ble_eq_true rfl⟩) (fun r hq => ?_)
  subst hq
  refine lv_if_eq (tgt := 16) hx hb dX3_look_4 (by decide) (fun c1 => ?_) (fun c1 => ?_)
  · refine lv_bipush (v := -2) hx hb dX3_look_16 (by decide) ?_
    exact W.iret hx hb hr (fun t9 ht9 hW => ⟨⟨_, u, rfl, Or.inr ⟨fun h => h.1 c1, rfl, rfl⟩, by rw [ht9]; exact hP, va_K.moved hW.alike hK, hD⟩, hS.F ht9⟩) hS.2.2 dX3_look_18
  · have hj_p0 := row_lt (p := p0) c1
    refine lv_iload_n hx hb dX3_look_7 rfl (lv_at hl 2 rfl) ?_
    refine lv_if_lt (tgt := 16) hx hb dX3_look_8 (by decide) (fun c2 => ?_) (fun c2 => ?_)
    · refine lv_bipush (v := -2) hx hb dX3_look_16 (by decide) ?_
      exact W.iret hx hb hr (fun t9 ht9 hW => ⟨⟨_, u, rfl, Or.inr ⟨fun h => h.2.1 c2, rfl, rfl⟩, by rw [ht9]; exact hP, va_K.moved hW.alike hK, hD⟩, hS.F ht9⟩) hS.2.2 dX3_look_18
    · refine lv_iload_n hx hb dX3_look_11 rfl (lv_at hl 2 rfl) ?_
      refine lv_iconst (v := 2) hx hb dX3_look_12 (by decide) ?_
      refine lv_icmp_le (tgt := 19) hx hb dX3_look_13 (by decide) (fun c3 => ?_) (fun c3 => ?_)
      · refine lv_iload_n hx hb dX3_look_19 rfl (lv_at hl 2 rfl) ?_
        refine lv_if_ne (tgt := 31) hx hb dX3_look_20 (by decide) (fun c4 => ?_) (fun c4 => ?_)
        · refine lv_iload_n hx hb dX3_look_31 rfl (lv_at hl 2 rfl) ?_
          refine lv_iconst (v := 1) hx hb dX3_look_32 (by decide) ?_
          refine lv_icmp_ne (tgt := 44) hx hb dX3_look_33 (by decide) (fun c5 => ?_) (fun c5 => ?_)
          · refine lv_aload_n hx hb dX3_look_44 rfl (lv_at hl 0 rfl) ?_
            refine lv_iload_n hx hb dX3_look_45 rfl (lv_at hl 1 rfl) ?_
            refine gVi (As := [.int p0]) (rest := []) ⟨hx, hb, hml, hown, hts⟩ (c_X3_end l dC dI A u p0 hj_p0 (row_in (p := p0) c1)) (cwV 1 hts (gi_V hbc tw_305 tw_307 ts_5 tw_4 tw_308) rfl rfl rfl (by decide +kernel) ⟨Nat.le_of_ble_eq_true rfl, Nat.le_of_ble_eq_true rfl⟩) (va_recv hK hP (ci := 3) (q0 := 0) rfl rfl) aR_mono aR_D hP hK hD hS rfl hl.1 rfl (Nat.le_of_ble_eq_true rfl) dX3_look_46 ⟨Nat.le_of_ble_eq_true rfl, Nat.le_of_ble_eq_true rfl⟩ (fun r6 v8 H locs hq7 hP hD hS => ?_)
            obtain ⟨hq7, rfl⟩ := hq7
            refine lv_if_ne (tgt := 56) hx hb dX3_look_49 (by decide) (fun c9 => ?_) (fun c9 => ?_)
            · refine lv_iconst (v := 0) hx hb dX3_look_56 (by decide) ?_
              exact W.iret hx hb hr (fun t9 ht9 hW => ⟨⟨_, u, rfl, Or.inl ⟨⟨c1, c2, c3⟩, ⟨Or.inr (Or.inr ⟨⟨c4, c5⟩, _, hq7, Or.inr ⟨c9, rfl⟩⟩), rfl⟩⟩, by rw [ht9]; exact hP, va_K.moved hW.alike hK, hD⟩, hS.F ht9⟩) hS.2.2 dX3_look_57
            · refine lv_iconst (v := 1) hx hb dX3_look_52 (by decide) ?_
              refine lv_goto (tgt := 57) hx hb dX3_look_53 (by decide) ?_
              exact W.iret hx hb hr (fun t9 ht9 hW => ⟨⟨_, u, rfl, Or.inl ⟨⟨c1, c2, c3⟩, ⟨Or.inr (Or.inr ⟨⟨c4, c5⟩, _, hq7, Or.inl ⟨c9, rfl⟩⟩), rfl⟩⟩, by rw [ht9]; exact hP, va_K.moved hW.alike hK, hD⟩, hS.F ht9⟩) hS.2.2 dX3_look_57
          · refine lv_aload_n hx hb dX3_look_36 rfl (lv_at hl 0 rfl) ?_
            refine lv_iload_n hx hb dX3_look_37 rfl (lv_at hl 1 rfl) ?_
            refine gVi (As := [.int p0]) (rest := []) ⟨hx, hb, hml, hown, hts⟩ (c_X3_end l dC dI A u p0 hj_p0 (row_in (p := p0) c1)) (cwV 1 hts (gi_V hbc tw_305 tw_307 ts_5 tw_4 tw_308) rfl rfl rfl (by decide +kernel) ⟨Nat.le_of_ble_eq_true rfl, Nat.le_of_ble_eq_true rfl⟩) (va_recv hK hP (ci := 3) (q0 := 0) rfl rfl) aR_mono aR_D hP hK hD hS rfl hl.1 rfl (Nat.le_of_ble_eq_true rfl) dX3_look_38 ⟨Nat.le_of_ble_eq_true rfl, Nat.le_of_ble_eq_true rfl⟩ (fun r10 v12 H locs hq11 hP hD hS => ?_)
            obtain ⟨hq11, rfl⟩ := hq11
            refine lv_goto (tgt := 57) hx hb dX3_look_41 (by decide) ?_
            exact W.iret hx hb hr (fun t9 ht9 hW => ⟨⟨_, u, rfl, Or.inl ⟨⟨c1, c2, c3⟩, ⟨Or.inr (Or.inl ⟨⟨c4, c5⟩, hq11⟩), rfl⟩⟩, by rw [ht9]; exact hP, va_K.moved hW.alike hK, hD⟩, hS.F ht9⟩) hS.2.2 dX3_look_57
        · refine lv_aload_n hx hb dX3_look_23 rfl (lv_at hl 0 rfl) ?_
          refine lv_iload_n hx hb dX3_look_24 rfl (lv_at hl 1 rfl) ?_
          refine gVi (As := [.int p0]) (rest := []) ⟨hx, hb, hml, hown, hts⟩ (c_X3_ones l dC dI A u p0 hj_p0 (row_in (p := p0) c1)) (cwV 1 hts (gi_V hbc tw_277 tw_279 ts_4 tw_4 tw_280) rfl rfl rfl (by decide +kernel) ⟨Nat.le_of_ble_eq_true rfl, Nat.le_of_ble_eq_true rfl⟩) (va_recv hK hP (ci := 3) (q0 := 0) rfl rfl) aR_mono aR_D hP hK hD hS rfl hl.1 rfl (Nat.le_of_ble_eq_true rfl) dX3_look_25 ⟨Nat.le_of_ble_eq_true rfl, Nat.le_of_ble_eq_true rfl⟩ (fun r13 v15 H locs hq14 hP hD hS => ?_)
          obtain ⟨rfl, rfl⟩ := hq14
          refine lv_goto (tgt := 57) hx hb dX3_look_28 (by decide) ?_
          exact W.iret hx hb hr (fun t9 ht9 hW => ⟨⟨_, u, rfl, Or.inl ⟨⟨c1, c2, c3⟩, ⟨Or.inl ⟨c4, rfl⟩, rfl⟩⟩, by rw [ht9]; exact hP, va_K.moved hW.alike hK, hD⟩, hS.F ht9⟩) hS.2.2 dX3_look_57
      · refine lv_bipush (v := -2) hx hb dX3_look_16 (by decide) ?_
        exact W.iret hx hb hr (fun t9 ht9 hW => ⟨⟨_, u, rfl, Or.inr ⟨fun h => c3 h.2.2, rfl, rfl⟩, by rw [ht9]; exact hP, va_K.moved hW.alike hK, hD⟩, hS.F ht9⟩) hS.2.2 dX3_look_18
set_option maxHeartbeats 4000000 in
set_option maxRecDepth 100000 in
theorem c_X3_meet (l : Launch) (dC : Nat → ClassId) (dI : Nat → Nat → Nat) (A : AdR) (u : StR)  (p0 : Int32) (p1 : Int32) (p2 : Int32) : gMi l yX3_meet wX3_meet ({ frames := 1, cells := 0, slots := 0, locals := 20 }) (dC, dI) bwCl (tyR A) (wR A) (aR A) [.ref (mh_ A), .int p0, .int p1, .int p2] u (fun r v => ((¬ (fX3_isRow p0) = 0 ∧ ¬ p1 < 0 ∧ ¬ 1 < p1 ∧ ¬ (fX3_isRow p2) = 0) ∧ ((p1 = 0 ∧ r = b01 (anB (u.1 p0.toNatClampNeg) (u.1 p2.toNatClampNeg) 4032)) ∨ (¬ p1 = 0 ∧ r = b01 (alB (u.1 p0.toNatClampNeg) (u.1 p2.toNatClampNeg) 4032))) ∧ u = v) ∨ (¬ (¬ (fX3_isRow p0) = 0 ∧ ¬ p1 < 0 ∧ ¬ 1 < p1 ∧ ¬ (fX3_isRow p2) = 0) ∧ r = -2 ∧ u = v)) := by
  unfold gMi
  intro sz
  refine Met.ofW (cc := cX3_meet) (maxL := 7) (ret := (some .int)) (by decide) rfl ?_
  intro p e s m args below meth c s₁ B hml hv
  obtain ⟨rfl, hsz, hP, hK, hD⟩ := hv
  subst hsz
  have hS : va_S (aR A s.heap.size) s.heap s.heap [] := va_S.rf
  have hx := B.exec
  have hb := B.bytes
  have hr := B.returns
  have hts := atoms_spec (ws := wX3_meet) B.pre
  have hw : ∀ w ∈ tg_, w.before _ s = true := fun w h => hts w (List.mem_cons_of_mem _ h)
  have hown : s.vm.findClass RX3 = some m.cls := findClass_of_methodNamed B.named
  have hlocks := B.notSynchronized
  have hl := lv_entry ([.ref (mh_ A), .int p0, .int p1, .int p2]) (n := 7) (Nat.le_of_ble_eq_true rfl)
  rw [lg_entry_eq]
  generalize (lg_sl ([.ref (mh_ A), .int p0, .int p1, .int p2]) ++ List.replicate (7 - (lg_sl ([.ref (mh_ A), .int p0, .int p1, .int p2])).length) Slot.unset).toArray = ls at hl ⊢
  have hl : lv_has ls 7 [(0, .ref (mh_ A)), (1, .int p0), (2, .int p1), (3, .int p2)] := hl
  refine lv_iload_n hx hb dX3_meet_0 rfl (lv_at hl 1 rfl) ?_
  refine vp_callSi (W.runS (As := [.int p0]) (rest := []) ⟨hx, hb, hml, hown, hts⟩ (c_X3_isRow l p0) (va_cwS 1 hts (gi_S hbc tw_261 tw_262 tw_4 tw_263) rfl rfl rfl (by decide +kernel) ⟨Nat.le_of_ble_eq_true rfl, Nat.le_of_ble_eq_true rfl⟩) preEq rfl rfl hl.1 rfl (lv_room (Nat.le_of_ble_eq_true rfl)) dX3_meet_1 ⟨Nat.le_of_ble_eq_true rfl, Nat.le_of_ble_eq_true rfl⟩) (fun r hq => ?_)
  subst hq
  refine lv_if_eq (tgt := 23) hx hb dX3_meet_4 (by decide) (fun c1 => ?_) (fun c1 => ?_)
  · refine lv_bipush (v := -2) hx hb dX3_meet_23 (by decide) ?_
    exact W.iret hx hb hr (fun t9 ht9 hW => ⟨⟨_, u, rfl, Or.inr ⟨fun h => h.1 c1, rfl, rfl⟩, by rw [ht9]; exact hP, va_K.moved hW.alike hK, hD⟩, hS.F ht9⟩) hS.2.2 dX3_meet_25
  · have hj_p0 := row_lt (p := p0) c1
    refine lv_iload_n hx hb dX3_meet_7 rfl (lv_at hl 2 rfl) ?_
    refine lv_if_lt (tgt := 23) hx hb dX3_meet_8 (by decide) (fun c2 => ?_) (fun c2 => ?_)
    · refine lv_bipush (v := -2) hx hb dX3_meet_23 (by decide) ?_
      exact W.iret hx hb hr (fun t9 ht9 hW => ⟨⟨_, u, rfl, Or.inr ⟨fun h => h.2.1 c2, rfl, rfl⟩, by rw [ht9]; exact hP, va_K.moved hW.alike hK, hD⟩, hS.F ht9⟩) hS.2.2 dX3_meet_25
    · refine lv_iload_n hx hb dX3_meet_11 rfl (lv_at hl 2 rfl) ?_
      refine lv_iconst (v := 1) hx hb dX3_meet_12 (by decide) ?_
      refine lv_icmp_gt (tgt := 23) hx hb dX3_meet_13 (by decide) (fun c3 => ?_) (fun c3 => ?_)
      · refine lv_bipush (v := -2) hx hb dX3_meet_23 (by decide) ?_
        exact W.iret hx hb hr (fun t9 ht9 hW => ⟨⟨_, u, rfl, Or.inr ⟨fun h => h.2.2.1 c3, rfl, rfl⟩, by rw [ht9]; exact hP, va_K.moved hW.alike hK, hD⟩, hS.F ht9⟩) hS.2.2 dX3_meet_25
      · refine lv_iload_n hx hb dX3_meet_16 rfl (lv_at hl 3 rfl) ?_
        refine vp_callSi (W.runS (As := [.int p2]) (rest := []) ⟨hx, hb, hml, hown, hts⟩ (c_X3_isRow l p2) (va_cwS 1 hts (gi_S hbc tw_261 tw_262 tw_4 tw_263) rfl rfl rfl (by decide +kernel) ⟨Nat.le_of_ble_eq_true rfl, Nat.le_of_ble_eq_true rfl⟩) preEq rfl rfl hl.1 rfl (lv_room (Nat.le_of_ble_eq_true rfl)) dX3_meet_17 ⟨Nat.le_of_ble_eq_true rfl, Nat.le_of_ble_eq_true rfl⟩) (fun r hq => ?_)
        subst hq
        refine lv_if_ne (tgt := 26) hx hb dX3_meet_20 (by decide) (fun c4 => ?_) (fun c4 => ?_)
        · have hj_p2 := row_lt (p := p2) c4
          refine lv_iconst (v := 0) hx hb dX3_meet_26 (by decide) ?_
          refine lv_istore (lv' := [(4, .int 0), (0, .ref (mh_ A)), (1, .int p0), (2, .int p1), (3, .int p2)]) hx hb dX3_meet_27 hl (by decide) rfl (fun ls hl => ?_)
          refine lv_iconst (v := 1) hx hb dX3_meet_29 (by decide) ?_
          refine lv_istore (lv' := [(5, .int 1), (4, .int 0), (0, .ref (mh_ A)), (1, .int p0), (2, .int p1), (3, .int p2)]) hx hb dX3_meet_30 hl (by decide) rfl (fun ls hl => ?_)
          refine lv_iconst (v := 0) hx hb dX3_meet_32 (by decide) ?_
          refine lv_istore (lv' := [(6, .int 0), (5, .int 1), (4, .int 0), (0, .ref (mh_ A)), (1, .int p0), (2, .int p1), (3, .int p2)]) hx hb dX3_meet_33 hl (by decide) rfl (fun ls hl => ?_)
          have hu_i : u = u := rfl
          refine w_loop (N := 4032) (i0 := 0) (fun i H locs ls => va_P (dC, dI) bwCl (wR A u) H ∧ va_D (aR A s.heap.size) (wR A u) ∧ va_S (aR A s.heap.size) s.heap H locs ∧ lv_has ls 7 [(0, .ref (mh_ A)), (1, .int p0), (2, .int p1), (3, .int p2), (4, .int (b01 (anB (u.1 p0.toNatClampNeg) (u.1 p2.toNatClampNeg) i))), (5, .int (b01 (alB (u.1 p0.toNatClampNeg) (u.1 p2.toNatClampNeg) i))), (6, .int (nI i))]) (by decide) ⟨tr_PR hu_i hP, tr_DR hu_i hD, hS, lv_sub hl [3, 4, 5, 6, 2, 1, 0] rfl⟩ ?_
          intro i H locs ls hz_i hi_i hI ih_i
          obtain ⟨hP, hD, hS, hl⟩ := hI
          refine lv_iload hx hb dX3_meet_35 (lv_at hl 6 rfl) ?_
          refine lv_sipush (v := 4032) hx hb dX3_meet_37 (by decide) ?_
          refine lv_icmp_ge (tgt := 118) hx hb dX3_meet_40 (by decide) (fun c5 => ?_) (fun c5 => ?_)
          · obtain rfl : i = 4032 := lp_out (n := 4032) rfl hi_i (by decide) c5
            refine lv_iload_n hx hb dX3_meet_118 rfl (lv_at hl 2 rfl) ?_
            refine lv_if_ne (tgt := 130) hx hb dX3_meet_119 (by decide) (fun c6 => ?_) (fun c6 => ?_)
            · refine lv_iload hx hb dX3_meet_130 (lv_at hl 5 rfl) ?_
              refine lv_if_eq (tgt := 139) hx hb dX3_meet_132 (by decide) (fun c7 => ?_) (fun c7 => ?_)
              · have c7 := b1f (b := _) c7
                refine lv_iconst (v := 0) hx hb dX3_meet_139 (by decide) ?_
                exact W.iret hx hb hr (fun t9 ht9 hW => ⟨⟨_, u, rfl, Or.inl ⟨⟨c1, c2, c3, c4⟩, ⟨Or.inr ⟨c6, by simp [b01, c7]⟩, rfl⟩⟩, by rw [ht9]; exact hP, va_K.moved hW.alike hK, hD⟩, hS.F ht9⟩) hS.2.2 dX3_meet_140
              · have c7 := b1t (b := _) c7
                refine lv_iconst (v := 1) hx hb dX3_meet_135 (by decide) ?_
                refine lv_goto (tgt := 140) hx hb dX3_meet_136 (by decide) ?_
                exact W.iret hx hb hr (fun t9 ht9 hW => ⟨⟨_, u, rfl, Or.inl ⟨⟨c1, c2, c3, c4⟩, ⟨Or.inr ⟨c6, by simp [b01, c7]⟩, rfl⟩⟩, by rw [ht9]; exact hP, va_K.moved hW.alike hK, hD⟩, hS.F ht9⟩) hS.2.2 dX3_meet_140
            · refine lv_iload hx hb dX3_meet_122 (lv_at hl 4 rfl) ?_
              refine lv_if_eq (tgt := 139) hx hb dX3_meet_124 (by decide) (fun c8 => ?_) (fun c8 => ?_)
              · have c8 := b1f (b := _) c8
                refine lv_iconst (v := 0) hx hb dX3_meet_139 (by decide) ?_
                exact W.iret hx hb hr (fun t9 ht9 hW => ⟨⟨_, u, rfl, Or.inl ⟨⟨c1, c2, c3, c4⟩, ⟨Or.inl ⟨c6, by simp [b01, c8]⟩, rfl⟩⟩, by rw [ht9]; exact hP, va_K.moved hW.alike hK, hD⟩, hS.F ht9⟩) hS.2.2 dX3_meet_140
              · have c8 := b1t (b := _) c8
                refine lv_goto (tgt := 135) hx hb dX3_meet_127 (by decide) ?_
                refine lv_iconst (v := 1) hx hb dX3_meet_135 (by decide) ?_
                refine lv_goto (tgt := 140) hx hb dX3_meet_136 (by decide) ?_
                exact W.iret hx hb hr (fun t9 ht9 hW => ⟨⟨_, u, rfl, Or.inl ⟨⟨c1, c2, c3, c4⟩, ⟨Or.inl ⟨c6, by simp [b01, c8]⟩, rfl⟩⟩, by rw [ht9]; exact hP, va_K.moved hW.alike hK, hD⟩, hS.F ht9⟩) hS.2.2 dX3_meet_140
          · have hlt_i : i < 4032 := lp_in (n := 4032) rfl hi_i c5
            refine lv_iload hx hb dX3_meet_43 (lv_at hl 4 rfl) ?_
            refine lv_if_ne (tgt := 72) hx hb dX3_meet_45 (by decide) (fun c9 => ?_) (fun c9 => ?_)
            · have c9 := b1t (b := _) c9
              refine lv_iconst (v := 1) hx hb dX3_meet_72 (by decide) ?_
              refine lv_goto (tgt := 77) hx hb dX3_meet_73 (by decide) ?_
              refine lv_topi (fun z10 ez10 => ?_)
              obtain rfl : z10 = b01 (anB (u.1 p0.toNatClampNeg) (u.1 p2.toNatClampNeg) (i + 1)) := ez10.trans (by simp [anB, b01, c9])
              refine lv_istore (lv' := [(4, .int (b01 (anB (u.1 p0.toNatClampNeg) (u.1 p2.toNatClampNeg) (i + 1)))), (0, .ref (mh_ A)), (1, .int p0), (2, .int p1), (3, .int p2), (5, .int (b01 (alB (u.1 p0.toNatClampNeg) (u.1 p2.toNatClampNeg) i))), (6, .int (nI i))]) hx hb dX3_meet_77 hl (by decide) rfl (fun ls hl => ?_)
              refine lv_iload hx hb dX3_meet_79 (lv_at hl 5 rfl) ?_
              refine lv_if_eq (tgt := 109) hx hb dX3_meet_81 (by decide) (fun c11 => ?_) (fun c11 => ?_)
              · have c11 := b1f (b := _) c11
                refine lv_iconst (v := 0) hx hb dX3_meet_109 (by decide) ?_
                refine lv_topi (fun z12 ez12 => ?_)
                obtain rfl : z12 = b01 (alB (u.1 p0.toNatClampNeg) (u.1 p2.toNatClampNeg) (i + 1)) := ez12.trans (by simp [alB, b01, c11])
                refine lv_istore (lv' := [(5, .int (b01 (alB (u.1 p0.toNatClampNeg) (u.1 p2.toNatClampNeg) (i + 1)))), (4, .int (b01 (anB (u.1 p0.toNatClampNeg) (u.1 p2.toNatClampNeg) (i + 1)))), (0, .ref (mh_ A)), (1, .int p0), (2, .int p1), (3, .int p2), (6, .int (nI i))]) hx hb dX3_meet_110 hl (by decide) rfl (fun ls hl => ?_)
                refine lv_iinc (v := nI (i + 1)) (lv' := [(6, .int (nI (i + 1))), (5, .int (b01 (alB (u.1 p0.toNatClampNeg) (u.1 p2.toNatClampNeg) (i + 1)))), (4, .int (b01 (anB (u.1 p0.toNatClampNeg) (u.1 p2.toNatClampNeg) (i + 1)))), (0, .ref (mh_ A)), (1, .int p0), (2, .int p1), (3, .int p2)]) hx hb dX3_meet_112 hl (k := 6) rfl (nI_1 _) (by decide) rfl (fun ls hl => ?_)
                refine lv_goto (tgt := 35) hx hb dX3_meet_115 (by decide) ?_
                have hv_i : u = u := rfl
                exact ih_i _ _ _ (by omega) ⟨tr_PR hv_i hP, tr_DR hv_i hD, hS, lv_sub hl [3, 4, 5, 6, 2, 1, 0] rfl⟩
              · have c11 := b1t (b := _) c11
                refine lv_aload_n hx hb dX3_meet_84 rfl (lv_at hl 1 rfl) ?_
                refine va_get (D := (dC, dI)) (ci := 3) (v := .ref (mq_ A)) (C := RX3) (T := TX3) (N := 4) hx hb hw igX3 hown hK hP 0 rfl rfl 0 (by decide) (hw _ tw_242) (fun _ h9 => h9) rfl dX3_meet_85 ?_
                refine lv_iload_n hx hb dX3_meet_88 rfl (lv_at hl 2 rfl) ?_
                refine va_aldz hx hb hK hP 1 0 rfl rfl (row_in (p := p0) c1) dX3_meet_89 ?_
                rw [mqF_at A hj_p0]
                refine lv_iload hx hb dX3_meet_90 (lv_at hl 6 rfl) ?_
                refine va_zald hx hb hK hP (4 + p0.toNatClampNeg) (3 + p0.toNatClampNeg) (wR_row A u hj_p0) (tyR_row A hj_p0) (vp_in_nI (by omega) (by omega)) dX3_meet_92 ?_
                rw [nI_clamp (n := i) (by omega)]
                refine lv_aload_n hx hb dX3_meet_93 rfl (lv_at hl 1 rfl) ?_
                refine va_get (D := (dC, dI)) (ci := 3) (v := .ref (mq_ A)) (C := RX3) (T := TX3) (N := 4) hx hb hw igX3 hown hK hP 0 rfl rfl 0 (by decide) (hw _ tw_242) (fun _ h9 => h9) rfl dX3_meet_94 ?_
                refine lv_iload_n hx hb dX3_meet_97 rfl (lv_at hl 4 rfl) ?_
                refine va_aldz hx hb hK hP 1 0 rfl rfl (row_in (p := p2) c4) dX3_meet_98 ?_
                rw [mqF_at A hj_p2]
                refine lv_iload hx hb dX3_meet_99 (lv_at hl 6 rfl) ?_
                refine va_zald hx hb hK hP (4 + p2.toNatClampNeg) (3 + p2.toNatClampNeg) (wR_row A u hj_p2) (tyR_row A hj_p2) (vp_in_nI (by omega) (by omega)) dX3_meet_101 ?_
                rw [nI_clamp (n := i) (by omega)]
                refine lv_icmp_ne (tgt := 109) hx hb dX3_meet_102 (by decide) (fun c13 => ?_) (fun c13 => ?_)
                · have c13 := b1_ne (b := _) (d := _) c13
                  refine lv_iconst (v := 0) hx hb dX3_meet_109 (by decide) ?_
                  refine lv_topi (fun z14 ez14 => ?_)
                  obtain rfl : z14 = b01 (alB (u.1 p0.toNatClampNeg) (u.1 p2.toNatClampNeg) (i + 1)) := ez14.trans (by simp [alB, b01, c11, c13])
                  refine lv_istore (lv' := [(5, .int (b01 (alB (u.1 p0.toNatClampNeg) (u.1 p2.toNatClampNeg) (i + 1)))), (4, .int (b01 (anB (u.1 p0.toNatClampNeg) (u.1 p2.toNatClampNeg) (i + 1)))), (0, .ref (mh_ A)), (1, .int p0), (2, .int p1), (3, .int p2), (6, .int (nI i))]) hx hb dX3_meet_110 hl (by decide) rfl (fun ls hl => ?_)
                  refine lv_iinc (v := nI (i + 1)) (lv' := [(6, .int (nI (i + 1))), (5, .int (b01 (alB (u.1 p0.toNatClampNeg) (u.1 p2.toNatClampNeg) (i + 1)))), (4, .int (b01 (anB (u.1 p0.toNatClampNeg) (u.1 p2.toNatClampNeg) (i + 1)))), (0, .ref (mh_ A)), (1, .int p0), (2, .int p1), (3, .int p2)]) hx hb dX3_meet_112 hl (k := 6) rfl (nI_1 _) (by decide) rfl (fun ls hl => ?_)
                  refine lv_goto (tgt := 35) hx hb dX3_meet_115 (by decide) ?_
                  have hv_i : u = u := rfl
                  exact ih_i _ _ _ (by omega) ⟨tr_PR hv_i hP, tr_DR hv_i hD, hS, lv_sub hl [3, 4, 5, 6, 2, 1, 0] rfl⟩
                · have c13 := b1_e (b := _) (d := _) c13
                  refine lv_iconst (v := 1) hx hb dX3_meet_105 (by decide) ?_
                  refine lv_goto (tgt := 110) hx hb dX3_meet_106 (by decide) ?_
                  refine lv_topi (fun z15 ez15 => ?_)
                  obtain rfl : z15 = b01 (alB (u.1 p0.toNatClampNeg) (u.1 p2.toNatClampNeg) (i + 1)) := ez15.trans (by simp [alB, b01, c11, c13])
                  refine lv_istore (lv' := [(5, .int (b01 (alB (u.1 p0.toNatClampNeg) (u.1 p2.toNatClampNeg) (i + 1)))), (4, .int (b01 (anB (u.1 p0.toNatClampNeg) (u.1 p2.toNatClampNeg) (i + 1)))), (0, .ref (mh_ A)), (1, .int p0), (2, .int p1), (3, .int p2), (6, .int (nI i))]) hx hb dX3_meet_110 hl (by decide) rfl (fun ls hl => ?_)
                  refine lv_iinc (v := nI (i + 1)) (lv' := [(6, .int (nI (i + 1))), (5, .int (b01 (alB (u.1 p0.toNatClampNeg) (u.1 p2.toNatClampNeg) (i + 1)))), (4, .int (b01 (anB (u.1 p0.toNatClampNeg) (u.1 p2.toNatClampNeg) (i + 1)))), (0, .ref (mh_ A)), (1, .int p0), (2, .int p1), (3, .int p2)]) hx hb dX3_meet_112 hl (k := 6) rfl (nI_1 _) (by decide) rfl (fun ls hl => ?_)
                  refine lv_goto (tgt := 35) hx hb dX3_meet_115 (by decide) ?_
                  have hv_i : u = u := rfl
                  exact ih_i _ _ _ (by omega) ⟨tr_PR hv_i hP, tr_DR hv_i hD, hS, lv_sub hl [3, 4, 5, 6, 2, 1, 0] rfl⟩
            · have c9 := b1f (b := _) c9
              refine lv_aload_n hx hb dX3_meet_48 rfl (lv_at hl 0 rfl) ?_
              refine va_get (D := (dC, dI)) (ci := 3) (v := .ref (mq_ A)) (C := RX3) (T := TX3) (N := 4) hx hb hw igX3 hown hK hP 0 rfl rfl 0 (by decide) (hw _ tw_242) (fun _ h9 => h9) rfl dX3_meet_49 ?_
              refine lv_iload_n hx hb dX3_meet_52 rfl (lv_at hl 1 rfl) ?_
              refine va_aldz hx hb hK hP 1 0 rfl rfl (row_in (p := p0) c1) dX3_meet_53 ?_
              rw [mqF_at A hj_p0]
              refine lv_iload hx hb dX3_meet_54 (lv_at hl 6 rfl) ?_
              refine va_zald hx hb hK hP (4 + p0.toNatClampNeg) (3 + p0.toNatClampNeg) (wR_row A u hj_p0) (tyR_row A hj_p0) (vp_in_nI (by omega) (by omega)) dX3_meet_56 ?_
              rw [nI_clamp (n := i) (by omega)]
              refine lv_if_eq (tgt := 76) hx hb dX3_meet_57 (by decide) (fun c16 => ?_) (fun c16 => ?_)
              · have c16 := b1f (b := _) c16
                refine lv_iconst (v := 0) hx hb dX3_meet_76 (by decide) ?_
                refine lv_topi (fun z17 ez17 => ?_)
                obtain rfl : z17 = b01 (anB (u.1 p0.toNatClampNeg) (u.1 p2.toNatClampNeg) (i + 1)) := ez17.trans (by simp [anB, b01, c9, c16])
                refine lv_istore (lv' := [(4, .int (b01 (anB (u.1 p0.toNatClampNeg) (u.1 p2.toNatClampNeg) (i + 1)))), (0, .ref (mh_ A)), (1, .int p0), (2, .int p1), (3, .int p2), (5, .int (b01 (alB (u.1 p0.toNatClampNeg) (u.1 p2.toNatClampNeg) i))), (6, .int (nI i))]) hx hb dX3_meet_77 hl (by decide) rfl (fun ls hl => ?_)
                refine lv_iload hx hb dX3_meet_79 (lv_at hl 5 rfl) ?_
                refine lv_if_eq (tgt := 109) hx hb dX3_meet_81 (by decide) (fun c18 => ?_) (fun c18 => ?_)
                · have c18 := b1f (b := _) c18
                  refine lv_iconst (v := 0) hx hb dX3_meet_109 (by decide) ?_
                  refine lv_topi (fun z19 ez19 => ?_)
                  obtain rfl : z19 = b01 (alB (u.1 p0.toNatClampNeg) (u.1 p2.toNatClampNeg) (i + 1)) := ez19.trans (by simp [alB, b01, c18])
                  refine lv_istore (lv' := [(5, .int (b01 (alB (u.1 p0.toNatClampNeg) (u.1 p2.toNatClampNeg) (i + 1)))), (4, .int (b01 (anB (u.1 p0.toNatClampNeg) (u.1 p2.toNatClampNeg) (i + 1)))), (0, .ref (mh_ A)), (1, .int p0), (2, .int p1), (3, .int p2), (6, .int (nI i))]) hx hb dX3_meet_110 hl (by decide) rfl (fun ls hl => ?_)
                  refine lv_iinc (v := nI (i + 1)) (lv' := [(6, .int (nI (i + 1))), (5, .int (b01 (alB (u.1 p0.toNatClampNeg) (u.1 p2.toNatClampNeg) (i + 1)))), (4, .int (b01 (anB (u.1 p0.toNatClampNeg) (u.1 p2.toNatClampNeg) (i + 1)))), (0, .ref (mh_ A)), (1, .int p0), (2, .int p1), (3, .int p2)]) hx hb dX3_meet_112 hl (k := 6) rfl (nI_1 _) (by decide) rfl (fun ls hl => ?_)
                  refine lv_goto (tgt := 35) hx hb dX3_meet_115 (by decide) ?_
                  have hv_i : u = u := rfl
                  exact ih_i _ _ _ (by omega) ⟨tr_PR hv_i hP, tr_DR hv_i hD, hS, lv_sub hl [3, 4, 5, 6, 2, 1, 0] rfl⟩
                · have c18 := b1t (b := _) c18
                  refine lv_aload_n hx hb dX3_meet_84 rfl (lv_at hl 1 rfl) ?_
                  refine va_get (D := (dC, dI)) (ci := 3) (v := .ref (mq_ A)) (C := RX3) (T := TX3) (N := 4) hx hb hw igX3 hown hK hP 0 rfl rfl 0 (by decide) (hw _ tw_242) (fun _ h9 => h9) rfl dX3_meet_85 ?_
                  refine lv_iload_n hx hb dX3_meet_88 rfl (lv_at hl 2 rfl) ?_
                  refine va_aldz hx hb hK hP 1 0 rfl rfl (row_in (p := p0) c1) dX3_meet_89 ?_
                  rw [mqF_at A hj_p0]
                  refine lv_iload hx hb dX3_meet_90 (lv_at hl 6 rfl) ?_
                  refine va_zald hx hb hK hP (4 + p0.toNatClampNeg) (3 + p0.toNatClampNeg) (wR_row A u hj_p0) (tyR_row A hj_p0) (vp_in_nI (by omega) (by omega)) dX3_meet_92 ?_
                  rw [nI_clamp (n := i) (by omega)]
                  refine lv_aload_n hx hb dX3_meet_93 rfl (lv_at hl 1 rfl) ?_
                  refine va_get (D := (dC, dI)) (ci := 3) (v := .ref (mq_ A)) (C := RX3) (T := TX3) (N := 4) hx hb hw igX3 hown hK hP 0 rfl rfl 0 (by decide) (hw _ tw_242) (fun _ h9 => h9) rfl dX3_meet_94 ?_
                  refine lv_iload_n hx hb dX3_meet_97 rfl (lv_at hl 4 rfl) ?_
                  refine va_aldz hx hb hK hP 1 0 rfl rfl (row_in (p := p2) c4) dX3_meet_98 ?_
                  rw [mqF_at A hj_p2]
                  refine lv_iload hx hb dX3_meet_99 (lv_at hl 6 rfl) ?_
                  refine va_zald hx hb hK hP (4 + p2.toNatClampNeg) (3 + p2.toNatClampNeg) (wR_row A u hj_p2) (tyR_row A hj_p2) (vp_in_nI (by omega) (by omega)) dX3_meet_101 ?_
                  rw [nI_clamp (n := i) (by omega)]
                  refine lv_icmp_ne (tgt := 109) hx hb dX3_meet_102 (by decide) (fun c20 => ?_) (fun c20 => ?_)
                  · have c20 := b1_ne (b := _) (d := _) c20
                    refine lv_iconst (v := 0) hx hb dX3_meet_109 (by decide) ?_
                    refine lv_topi (fun z21 ez21 => ?_)
                    obtain rfl : z21 = b01 (alB (u.1 p0.toNatClampNeg) (u.1 p2.toNatClampNeg) (i + 1)) := ez21.trans (by simp [alB, b01, c18, c20])
                    refine lv_istore (lv' := [(5, .int (b01 (alB (u.1 p0.toNatClampNeg) (u.1 p2.toNatClampNeg) (i + 1)))), (4, .int (b01 (anB (u.1 p0.toNatClampNeg) (u.1 p2.toNatClampNeg) (i + 1)))), (0, .ref (mh_ A)), (1, .int p0), (2, .int p1), (3, .int p2), (6, .int (nI i))]) hx hb dX3_meet_110 hl (by decide) rfl (fun ls hl => ?_)
                    refine lv_iinc (v := nI (i + 1)) (lv' := [(6, .int (nI (i + 1))), (5, .int (b01 (alB (u.1 p0.toNatClampNeg) (u.1 p2.toNatClampNeg) (i + 1)))), (4, .int (b01 (anB (u.1 p0.toNatClampNeg) (u.1 p2.toNatClampNeg) (i + 1)))), (0, .ref (mh_ A)), (1, .int p0), (2, .int p1), (3, .int p2)]) hx hb dX3_meet_112 hl (k := 6) rfl (nI_1 _) (by decide) rfl (fun ls hl => ?_)
                    refine lv_goto (tgt := 35) hx hb dX3_meet_115 (by decide) ?_
                    have hv_i : u = u := rfl
                    exact ih_i _ _ _ (by omega) ⟨tr_PR hv_i hP, tr_DR hv_i hD, hS, lv_sub hl [3, 4, 5, 6, 2, 1, 0] rfl⟩
                  · have c20 := b1_e (b := _) (d := _) c20
                    refine lv_iconst (v := 1) hx hb dX3_meet_105 (by decide) ?_
                    refine lv_goto (tgt := 110) hx hb dX3_meet_106 (by decide) ?_
                    refine lv_topi (fun z22 ez22 => ?_)
                    obtain rfl : z22 = b01 (alB (u.1 p0.toNatClampNeg) (u.1 p2.toNatClampNeg) (i + 1)) := ez22.trans (by simp [alB, b01, c18, c20])
                    refine lv_istore (lv' := [(5, .int (b01 (alB (u.1 p0.toNatClampNeg) (u.1 p2.toNatClampNeg) (i + 1)))), (4, .int (b01 (anB (u.1 p0.toNatClampNeg) (u.1 p2.toNatClampNeg) (i + 1)))), (0, .ref (mh_ A)), (1, .int p0), (2, .int p1), (3, .int p2), (6, .int (nI i))]) hx hb dX3_meet_110 hl (by decide) rfl (fun ls hl => ?_)
                    refine lv_iinc (v := nI (i + 1)) (lv' := [(6, .int (nI (i + 1))), (5, .int (b01 (alB (u.1 p0.toNatClampNeg) (u.1 p2.toNatClampNeg) (i + 1)))), (4, .int (b01 (anB (u.1 p0.toNatClampNeg) (u.1 p2.toNatClampNeg) (i + 1)))), (0, .ref (mh_ A)), (1, .int p0), (2, .int p1), (3, .int p2)]) hx hb dX3_meet_112 hl (k := 6) rfl (nI_1 _) (by decide) rfl (fun ls hl => ?_)
                    refine lv_goto (tgt := 35) hx hb dX3_meet_115 (by decide) ?_
                    have hv_i : u = u := rfl
                    exact ih_i _ _ _ (by omega) ⟨tr_PR hv_i hP, tr_DR hv_i hD, hS, lv_sub hl [3, 4, 5, 6, 2, 1, 0] rfl⟩
              · have c16 := b1t (b := _) c16
                refine lv_aload_n hx hb dX3_meet_60 rfl (lv_at hl 0 rfl) ?_
                refine va_get (D := (dC, dI)) (ci := 3) (v := .ref (mq_ A)) (C := RX3) (T := TX3) (N := 4) hx hb hw igX3 hown hK hP 0 rfl rfl 0 (by decide) (hw _ tw_242) (fun _ h9 => h9) rfl dX3_meet_61 ?_
                refine lv_iload_n hx hb dX3_meet_64 rfl (lv_at hl 3 rfl) ?_
                refine va_aldz hx hb hK hP 1 0 rfl rfl (row_in (p := p2) c4) dX3_meet_65 ?_
                rw [mqF_at A hj_p2]
                refine lv_iload hx hb dX3_meet_66 (lv_at hl 6 rfl) ?_
                refine va_zald hx hb hK hP (4 + p2.toNatClampNeg) (3 + p2.toNatClampNeg) (wR_row A u hj_p2) (tyR_row A hj_p2) (vp_in_nI (by omega) (by omega)) dX3_meet_68 ?_
                rw [nI_clamp (n := i) (by omega)]
                refine lv_if_eq (tgt := 76) hx hb dX3_meet_69 (by decide) (fun c23 => ?_) (fun c23 => ?_)
                · have c23 := b1f (b := _) c23
                  refine lv_iconst (v := 0) hx hb dX3_meet_76 (by decide) ?_
                  refine lv_topi (fun z24 ez24 => ?_)
                  obtain rfl : z24 = b01 (anB (u.1 p0.toNatClampNeg) (u.1 p2.toNatClampNeg) (i + 1)) := ez24.trans (by simp [anB, b01, c9, c16, c23])
                  refine lv_istore (lv' := [(4, .int (b01 (anB (u.1 p0.toNatClampNeg) (u.1 p2.toNatClampNeg) (i + 1)))), (0, .ref (mh_ A)), (1, .int p0), (2, .int p1), (3, .int p2), (5, .int (b01 (alB (u.1 p0.toNatClampNeg) (u.1 p2.toNatClampNeg) i))), (6, .int (nI i))]) hx hb dX3_meet_77 hl (by decide) rfl (fun ls hl => ?_)
                  refine lv_iload hx hb dX3_meet_79 (lv_at hl 5 rfl) ?_
                  refine lv_if_eq (tgt := 109) hx hb dX3_meet_81 (by decide) (fun c25 => ?_) (fun c25 => ?_)
                  · have c25 := b1f (b := _) c25
                    refine lv_iconst (v := 0) hx hb dX3_meet_109 (by decide) ?_
                    refine lv_topi (fun z26 ez26 => ?_)
                    obtain rfl : z26 = b01 (alB (u.1 p0.toNatClampNeg) (u.1 p2.toNatClampNeg) (i + 1)) := ez26.trans (by simp [alB, b01, c25])
                    refine lv_istore (lv' := [(5, .int (b01 (alB (u.1 p0.toNatClampNeg) (u.1 p2.toNatClampNeg) (i + 1)))), (4, .int (b01 (anB (u.1 p0.toNatClampNeg) (u.1 p2.toNatClampNeg) (i + 1)))), (0, .ref (mh_ A)), (1, .int p0), (2, .int p1), (3, .int p2), (6, .int (nI i))]) hx hb dX3_meet_110 hl (by decide) rfl (fun ls hl => ?_)
                    refine lv_iinc (v := nI (i + 1)) (lv' := [(6, .int (nI (i + 1))), (5, .int (b01 (alB (u.1 p0.toNatClampNeg) (u.1 p2.toNatClampNeg) (i + 1)))), (4, .int (b01 (anB (u.1 p0.toNatClampNeg) (u.1 p2.toNatClampNeg) (i + 1)))), (0, .ref (mh_ A)), (1, .int p0), (2, .int p1), (3, .int p2)]) hx hb dX3_meet_112 hl (k := 6) rfl (nI_1 _) (by decide) rfl (fun ls hl => ?_)
                    refine lv_goto (tgt := 35) hx hb dX3_meet_115 (by decide) ?_
                    have hv_i : u = u := rfl
                    exact ih_i _ _ _ (by omega) ⟨tr_PR hv_i hP, tr_DR hv_i hD, hS, lv_sub hl [3, 4, 5, 6, 2, 1, 0] rfl⟩
                  · have c25 := b1t (b := _) c25
                    refine lv_aload_n hx hb dX3_meet_84 rfl (lv_at hl 1 rfl) ?_
                    refine va_get (D := (dC, dI)) (ci := 3) (v := .ref (mq_ A)) (C := RX3) (T := TX3) (N := 4) hx hb hw igX3 hown hK hP 0 rfl rfl 0 (by decide) (hw _ tw_242) (fun _ h9 => h9) rfl dX3_meet_85 ?_
                    refine lv_iload_n hx hb dX3_meet_88 rfl (lv_at hl 2 rfl) ?_
                    refine va_aldz hx hb hK hP 1 0 rfl rfl (row_in (p := p0) c1) dX3_meet_89 ?_
                    rw [mqF_at A hj_p0]
                    refine lv_iload hx hb dX3_meet_90 (lv_at hl 6 rfl) ?_
                    refine va_zald hx hb hK hP (4 + p0.toNatClampNeg) (3 + p0.toNatClampNeg) (wR_row A u hj_p0) (tyR_row A hj_p0) (vp_in_nI (by omega) (by omega)) dX3_meet_92 ?_
                    rw [nI_clamp (n := i) (by omega)]
                    refine lv_aload_n hx hb dX3_meet_93 rfl (lv_at hl 1 rfl) ?_
                    refine va_get (D := (dC, dI)) (ci := 3) (v := .ref (mq_ A)) (C := RX3) (T := TX3) (N := 4) hx hb hw igX3 hown hK hP 0 rfl rfl 0 (by decide) (hw _ tw_242) (fun _ h9 => h9) rfl dX3_meet_94 ?_
                    refine lv_iload_n hx hb dX3_meet_97 rfl (lv_at hl 4 rfl) ?_
                    refine va_aldz hx hb hK hP 1 0 rfl rfl (row_in (p := p2) c4) dX3_meet_98 ?_
                    rw [mqF_at A hj_p2]
                    refine lv_iload hx hb dX3_meet_99 (lv_at hl 6 rfl) ?_
                    refine va_zald hx hb hK hP (4 + p2.toNatClampNeg) (3 + p2.toNatClampNeg) (wR_row A u hj_p2) (tyR_row A hj_p2) (vp_in_nI (by omega) (by omega)) dX3_meet_101 ?_
                    rw [nI_clamp (n := i) (by omega)]
                    refine lv_icmp_ne (tgt := 109) hx hb dX3_meet_102 (by decide) (fun c27 => ?_) (fun c27 => ?_)
                    · have c27 := b1_ne (b := _) (d := _) c27
                      refine lv_iconst (v := 0) hx hb dX3_meet_109 (by decide) ?_
                      refine lv_topi (fun z28 ez28 => ?_)
                      obtain rfl : z28 = b01 (alB (u.1 p0.toNatClampNeg) (u.1 p2.toNatClampNeg) (i + 1)) := ez28.trans (by simp [alB, b01, c25, c27])
                      refine lv_istore (lv' := [(5, .int (b01 (alB (u.1 p0.toNatClampNeg) (u.1 p2.toNatClampNeg) (i + 1)))), (4, .int (b01 (anB (u.1 p0.toNatClampNeg) (u.1 p2.toNatClampNeg) (i + 1)))), (0, .ref (mh_ A)), (1, .int p0), (2, .int p1), (3, .int p2), (6, .int (nI i))]) hx hb dX3_meet_110 hl (by decide) rfl (fun ls hl => ?_)
                      refine lv_iinc (v := nI (i + 1)) (lv' := [(6, .int (nI (i + 1))), (5, .int (b01 (alB (u.1 p0.toNatClampNeg) (u.1 p2.toNatClampNeg) (i + 1)))), (4, .int (b01 (anB (u.1 p0.toNatClampNeg) (u.1 p2.toNatClampNeg) (i + 1)))), (0, .ref (mh_ A)), (1, .int p0), (2, .int p1), (3, .int p2)]) hx hb dX3_meet_112 hl (k := 6) rfl (nI_1 _) (by decide) rfl (fun ls hl => ?_)
                      refine lv_goto (tgt := 35) hx hb dX3_meet_115 (by decide) ?_
                      have hv_i : u = u := rfl
                      exact ih_i _ _ _ (by omega) ⟨tr_PR hv_i hP, tr_DR hv_i hD, hS, lv_sub hl [3, 4, 5, 6, 2, 1, 0] rfl⟩
                    · have c27 := b1_e (b := _) (d := _) c27
                      refine lv_iconst (v := 1) hx hb dX3_meet_105 (by decide) ?_
                      refine lv_goto (tgt := 110) hx hb dX3_meet_106 (by decide) ?_
                      refine lv_topi (fun z29 ez29 => ?_)
                      obtain rfl : z29 = b01 (alB (u.1 p0.toNatClampNeg) (u.1 p2.toNatClampNeg) (i + 1)) := ez29.trans (by simp [alB, b01, c25, c27])
                      refine lv_istore (lv' := [(5, .int (b01 (alB (u.1 p0.toNatClampNeg) (u.1 p2.toNatClampNeg) (i + 1)))), (4, .int (b01 (anB (u.1 p0.toNatClampNeg) (u.1 p2.toNatClampNeg) (i + 1)))), (0, .ref (mh_ A)), (1, .int p0), (2, .int p1), (3, .int p2), (6, .int (nI i))]) hx hb dX3_meet_110 hl (by decide) rfl (fun ls hl => ?_)
                      refine lv_iinc (v := nI (i + 1)) (lv' := [(6, .int (nI (i + 1))), (5, .int (b01 (alB (u.1 p0.toNatClampNeg) (u.1 p2.toNatClampNeg) (i + 1)))), (4, .int (b01 (anB (u.1 p0.toNatClampNeg) (u.1 p2.toNatClampNeg) (i + 1)))), (0, .ref (mh_ A)), (1, .int p0), (2, .int p1), (3, .int p2)]) hx hb dX3_meet_112 hl (k := 6) rfl (nI_1 _) (by decide) rfl (fun ls hl => ?_)
                      refine lv_goto (tgt := 35) hx hb dX3_meet_115 (by decide) ?_
                      have hv_i : u = u := rfl
                      exact ih_i _ _ _ (by omega) ⟨tr_PR hv_i hP, tr_DR hv_i hD, hS, lv_sub hl [3, 4, 5, 6, 2, 1, 0] rfl⟩
                · have c23 := b1t (b := _) c23
                  refine lv_iconst (v := 1) hx hb dX3_meet_72 (by decide) ?_
                  refine lv_goto (tgt := 77) hx hb dX3_meet_73 (by decide) ?_
                  refine lv_topi (fun z30 ez30 => ?_)
                  obtain rfl : z30 = b01 (anB (u.1 p0.toNatClampNeg) (u.1 p2.toNatClampNeg) (i + 1)) := ez30.trans (by simp [anB, b01, c9, c16, c23])
                  refine lv_istore (lv' := [(4, .int (b01 (anB (u.1 p0.toNatClampNeg) (u.1 p2.toNatClampNeg) (i + 1)))), (0, .ref (mh_ A)), (1, .int p0), (2, .int p1), (3, .int p2), (5, .int (b01 (alB (u.1 p0.toNatClampNeg) (u.1 p2.toNatClampNeg) i))), (6, .int (nI i))]) hx hb dX3_meet_77 hl (by decide) rfl (fun ls hl => ?_)
                  refine lv_iload hx hb dX3_meet_79 (lv_at hl 5 rfl) ?_
                  refine lv_if_eq (tgt := 109) hx hb dX3_meet_81 (by decide) (fun c31 => ?_) (fun c31 => ?_)
                  · have c31 := b1f (b := _) c31
                    refine lv_iconst (v := 0) hx hb dX3_meet_109 (by decide) ?_
                    refine lv_topi (fun z32 ez32 => ?_)
                    obtain rfl : z32 = b01 (alB (u.1 p0.toNatClampNeg) (u.1 p2.toNatClampNeg) (i + 1)) := ez32.trans (by simp [alB, b01, c31])
                    refine lv_istore (lv' := [(5, .int (b01 (alB (u.1 p0.toNatClampNeg) (u.1 p2.toNatClampNeg) (i + 1)))), (4, .int (b01 (anB (u.1 p0.toNatClampNeg) (u.1 p2.toNatClampNeg) (i + 1)))), (0, .ref (mh_ A)), (1, .int p0), (2, .int p1), (3, .int p2), (6, .int (nI i))]) hx hb dX3_meet_110 hl (by decide) rfl (fun ls hl => ?_)
                    refine lv_iinc (v := nI (i + 1)) (lv' := [(6, .int (nI (i + 1))), (5, .int (b01 (alB (u.1 p0.toNatClampNeg) (u.1 p2.toNatClampNeg) (i + 1)))), (4, .int (b01 (anB (u.1 p0.toNatClampNeg) (u.1 p2.toNatClampNeg) (i + 1)))), (0, .ref (mh_ A)), (1, .int p0), (2, .int p1), (3, .int p2)]) hx hb dX3_meet_112 hl (k := 6) rfl (nI_1 _) (by decide) rfl (fun ls hl => ?_)
                    refine lv_goto (tgt := 35) hx hb dX3_meet_115 (by decide) ?_
                    have hv_i : u = u := rfl
                    exact ih_i _ _ _ (by omega) ⟨tr_PR hv_i hP, tr_DR hv_i hD, hS, lv_sub hl [3, 4, 5, 6, 2, 1, 0] rfl⟩
                  · have c31 := b1t (b := _) c31
                    refine lv_aload_n hx hb dX3_meet_84 rfl (lv_at hl 1 rfl) ?_
                    refine va_get (D := (dC, dI)) (ci := 3) (v := .ref (mq_ A)) (C := RX3) (T := TX3) (N := 4) hx hb hw igX3 hown hK hP 0 rfl rfl 0 (by decide) (hw _ tw_242) (fun _ h9 => h9) rfl dX3_meet_85 ?_
                    refine lv_iload_n hx hb dX3_meet_88 rfl (lv_at hl 2 rfl) ?_
                    refine va_aldz hx hb hK hP 1 0 rfl rfl (row_in (p := p0) c1) dX3_meet_89 ?_
                    rw [mqF_at A hj_p0]
                    refine lv_iload hx hb dX3_meet_90 (lv_at hl 6 rfl) ?_
                    refine va_zald hx hb hK hP (4 + p0.toNatClampNeg) (3 + p0.toNatClampNeg) (wR_row A u hj_p0) (tyR_row A hj_p0) (vp_in_nI (by omega) (by omega)) dX3_meet_92 ?_
                    rw [nI_clamp (n := i) (by omega)]
                    refine lv_aload_n hx hb dX3_meet_93 rfl (lv_at hl 1 rfl) ?_
                    refine va_get (D := (dC, dI)) (ci := 3) (v := .ref (mq_ A)) (C := RX3) (T := TX3) (N := 4) hx hb hw igX3 hown hK hP 0 rfl rfl 0 (by decide) (hw _ tw_242) (fun _ h9 => h9) rfl dX3_meet_94 ?_
                    refine lv_iload_n hx hb dX3_meet_97 rfl (lv_at hl 4 rfl) ?_
                    refine va_aldz hx hb hK hP 1 0 rfl rfl (row_in (p := p2) c4) dX3_meet_98 ?_
                    rw [mqF_at A hj_p2]
                    refine lv_iload hx hb dX3_meet_99 (lv_at hl 6 rfl) ?_
                    refine va_zald hx hb hK hP (4 + p2.toNatClampNeg) (3 + p2.toNatClampNeg) (wR_row A u hj_p2) (tyR_row A hj_p2) (vp_in_nI (by omega) (by omega)) dX3_meet_101 ?_
                    rw [nI_clamp (n := i) (by omega)]
                    refine lv_icmp_ne (tgt := 109) hx hb dX3_meet_102 (by decide) (fun c33 => ?_) (fun c33 => ?_)
                    · have c33 := b1_ne (b := _) (d := _) c33
                      refine lv_iconst (v := 0) hx hb dX3_meet_109 (by decide) ?_
                      refine lv_topi (fun z34 ez34 => ?_)
                      obtain rfl : z34 = b01 (alB (u.1 p0.toNatClampNeg) (u.1 p2.toNatClampNeg) (i + 1)) := ez34.trans (by simp [alB, b01, c31, c33])
                      refine lv_istore (lv' := [(5, .int (b01 (alB (u.1 p0.toNatClampNeg) (u.1 p2.toNatClampNeg) (i + 1)))), (4, .int (b01 (anB (u.1 p0.toNatClampNeg) (u.1 p2.toNatClampNeg) (i + 1)))), (0, .ref (mh_ A)), (1, .int p0), (2, .int p1), (3, .int p2), (6, .int (nI i))]) hx hb dX3_meet_110 hl (by decide) rfl (fun ls hl => ?_)
                      refine lv_iinc (v := nI (i + 1)) (lv' := [(6, .int (nI (i + 1))), (5, .int (b01 (alB (u.1 p0.toNatClampNeg) (u.1 p2.toNatClampNeg) (i + 1)))), (4, .int (b01 (anB (u.1 p0.toNatClampNeg) (u.1 p2.toNatClampNeg) (i + 1)))), (0, .ref (mh_ A)), (1, .int p0), (2, .int p1), (3, .int p2)]) hx hb dX3_meet_112 hl (k := 6) rfl (nI_1 _) (by decide) rfl (fun ls hl => ?_)
                      refine lv_goto (tgt := 35) hx hb dX3_meet_115 (by decide) ?_
                      have hv_i : u = u := rfl
                      exact ih_i _ _ _ (by omega) ⟨tr_PR hv_i hP, tr_DR hv_i hD, hS, lv_sub hl [3, 4, 5, 6, 2, 1, 0] rfl⟩
                    · have c33 := b1_e (b := _) (d := _) c33
                      refine lv_iconst (v := 1) hx hb dX3_meet_105 (by decide) ?_
                      refine lv_goto (tgt := 110) hx hb dX3_meet_106 (by decide) ?_
                      refine lv_topi (fun z35 ez35 => ?_)
                      obtain rfl : z35 = b01 (alB (u.1 p0.toNatClampNeg) (u.1 p2.toNatClampNeg) (i + 1)) := ez35.trans (by simp [alB, b01, c31, c33])
                      refine lv_istore (lv' := [(5, .int (b01 (alB (u.1 p0.toNatClampNeg) (u.1 p2.toNatClampNeg) (i + 1)))), (4, .int (b01 (anB (u.1 p0.toNatClampNeg) (u.1 p2.toNatClampNeg) (i + 1)))), (0, .ref (mh_ A)), (1, .int p0), (2, .int p1), (3, .int p2), (6, .int (nI i))]) hx hb dX3_meet_110 hl (by decide) rfl (fun ls hl => ?_)
                      refine lv_iinc (v := nI (i + 1)) (lv' := [(6, .int (nI (i + 1))), (5, .int (b01 (alB (u.1 p0.toNatClampNeg) (u.1 p2.toNatClampNeg) (i + 1)))), (4, .int (b01 (anB (u.1 p0.toNatClampNeg) (u.1 p2.toNatClampNeg) (i + 1)))), (0, .ref (mh_ A)), (1, .int p0), (2, .int p1), (3, .int p2)]) hx hb dX3_meet_112 hl (k := 6) rfl (nI_1 _) (by decide) rfl (fun ls hl => ?_)
                      refine lv_goto (tgt := 35) hx hb dX3_meet_115 (by decide) ?_
                      have hv_i : u = u := rfl
                      exact ih_i _ _ _ (by omega) ⟨tr_PR hv_i hP, tr_DR hv_i hD, hS, lv_sub hl [3, 4, 5, 6, 2, 1, 0] rfl⟩
        · refine lv_bipush (v := -2) hx hb dX3_meet_23 (by decide) ?_
          exact W.iret hx hb hr (fun t9 ht9 hW => ⟨⟨_, u, rfl, Or.inr ⟨fun h => h.2.2.2 c4, rfl, rfl⟩, by rw [ht9]; exact hP, va_K.moved hW.alike hK, hD⟩, hS.F ht9⟩) hS.2.2 dX3_meet_25
set_option maxHeartbeats 4000000 in
set_option maxRecDepth 100000 in
theorem c_X3_walk (l : Launch) (dC : Nat → ClassId) (dI : Nat → Nat → Nat) (A : AdR) (u : StR)  (p0 : Int32) : gMl l yX3_walk wX3_walk ({ frames := 1, cells := 0, slots := 0, locals := 20 }) (dC, dI) bwCl (tyR A) (wR A) (aR A) [.ref (mh_ A), .int p0] u (fun r v => ((¬ (fX3_isRow p0) = 0) ∧ (r = lN (wkf (u.1 p0.toNatClampNeg) 0 4032 (0, 0)).2 ∧ u = v)) ∨ (¬ (¬ (fX3_isRow p0) = 0) ∧ r = 4611686018427387904 ∧ u = v)) := by
  unfold gMl
  intro sz
  refine Met.ofW (cc := cX3_walk) (maxL := 6) (ret := (some .long)) (by decide) rfl ?_
  intro p e s m args below meth c s₁ B hml hv
  obtain ⟨rfl, hsz, hP, hK, hD⟩ := hv
  subst hsz
  have hS : va_S (aR A s.heap.size) s.heap s.heap [] := va_S.rf
  have hx := B.exec
  have hb := B.bytes
  have hr := B.returns
  have hts := atoms_spec (ws := wX3_walk) B.pre
  have hw : ∀ w ∈ tg_, w.before _ s = true := fun w h => hts w (List.mem_cons_of_mem _ h)
  have hown : s.vm.findClass RX3 = some m.cls := findClass_of_methodNamed B.named
  have hlocks := B.notSynchronized
  have hl := lv_entry ([.ref (mh_ A), .int p0]) (n := 6) (Nat.le_of_ble_eq_true rfl)
  rw [lg_entry_eq]
  generalize (lg_sl ([.ref (mh_ A), .int p0]) ++ List.replicate (6 - (lg_sl ([.ref (mh_ A), .int p0])).length) Slot.unset).toArray = ls at hl ⊢
  have hl : lv_has ls 6 [(0, .ref (mh_ A)), (1, .int p0)] := hl
  refine lv_iload_n hx hb dX3_walk_0 rfl (lv_at hl 1 rfl) ?_
  refine vp_callSi (W.runS (As := [.int p0]) (rest := []) ⟨hx, hb, hml, hown, hts⟩ (c_X3_isRow l p0) (va_cwS 1 hts (gi_S hbc tw_261 tw_262 tw_4 tw_263) rfl rfl rfl (by decide +kernel) ⟨Nat.le_of_ble_eq_true rfl, Nat.le_of_ble_eq_true rfl⟩) preEq rfl rfl hl.1 rfl (lv_room (Nat.le_of_ble_eq_true rfl)) dX3_walk_1 ⟨Nat.le_of_ble_eq_true rfl, Nat.le_of_ble_eq_true rfl⟩) (fun r hq => ?_)
  subst hq
  refine lv_if_ne (tgt := 11) hx hb dX3_walk_4 (by decide) (fun c1 => ?_) (fun c1 => ?_)
  · have hj_p0 := row_lt (p := p0) c1
    refine lv_lconst (v := 0) hx hb dX3_walk_11 (by decide) ?_
    refine lv_lstore_n (lv' := [(2, .long 0), (0, .ref (mh_ A)), (1, .int p0)]) hx hb dX3_walk_12 rfl hl (by decide) rfl (fun ls hl => ?_)
    refine lv_iconst (v := 0) hx hb dX3_walk_13 (by decide) ?_
    refine lv_istore (lv' := [(4, .int 0), (2, .long 0), (0, .ref (mh_ A)), (1, .int p0)]) hx hb dX3_walk_14 hl (by decide) rfl (fun ls hl => ?_)
    refine lv_iconst (v := 0) hx hb dX3_walk_16 (by decide) ?_
    refine lv_istore (lv' := [(5, .int 0), (4, .int 0), (2, .long 0), (0, .ref (mh_ A)), (1, .int p0)]) hx hb dX3_walk_17 hl (by decide) rfl (fun ls hl => ?_)
    have hu_i : u = u := rfl
    refine w_loop (N := 4032) (i0 := 0) (fun i H locs ls => va_P (dC, dI) bwCl (wR A u) H ∧ va_D (aR A s.heap.size) (wR A u) ∧ va_S (aR A s.heap.size) s.heap H locs ∧ lv_has ls 6 [(0, .ref (mh_ A)), (1, .int p0), (2, .long (lN (wkf (u.1 p0.toNatClampNeg) 0 i (0, 0)).2)), (4, .int (nI (wkf (u.1 p0.toNatClampNeg) 0 i (0, 0)).1)), (5, .int (nI i))]) (by decide) ⟨tr_PR hu_i hP, tr_DR hu_i hD, hS, lv_sub hl [3, 4, 2, 1, 0] rfl⟩ ?_
    intro i H locs ls hz_i hi_i hI ih_i
    obtain ⟨hP, hD, hS, hl⟩ := hI
    refine lv_iload hx hb dX3_walk_19 (lv_at hl 4 rfl) ?_
    refine lv_sipush (v := 4032) hx hb dX3_walk_21 (by decide) ?_
    refine lv_icmp_ge (tgt := 61) hx hb dX3_walk_24 (by decide) (fun c2 => ?_) (fun c2 => ?_)
    · obtain rfl : i = 4032 := lp_out (n := 4032) rfl hi_i (by decide) c2
      refine lv_lload_n hx hb dX3_walk_61 rfl (lv_at hl 2 rfl) ?_
      exact W.lret hx hb hr (fun t9 ht9 hW => ⟨⟨_, u, rfl, Or.inl ⟨c1, ⟨rfl, rfl⟩⟩, by rw [ht9]; exact hP, va_K.moved hW.alike hK, hD⟩, hS.F ht9⟩) hS.2.2 dX3_walk_62
    · have hlt_i : i < 4032 := lp_in (n := 4032) rfl hi_i c2
      refine lv_aload_n hx hb dX3_walk_27 rfl (lv_at hl 0 rfl) ?_
      refine va_get (D := (dC, dI)) (ci := 3) (v := .ref (mq_ A)) (C := RX3) (T := TX3) (N := 4) hx hb hw igX3 hown hK hP 0 rfl rfl 0 (by decide) (hw _ tw_242) (fun _ h9 => h9) rfl dX3_walk_28 ?_
      refine lv_iload_n hx hb dX3_walk_31 rfl (lv_at hl 1 rfl) ?_
      refine va_aldz hx hb hK hP 1 0 rfl rfl (row_in (p := p0) c1) dX3_walk_32 ?_
      rw [mqF_at A hj_p0]
      refine lv_iload hx hb dX3_walk_33 (lv_at hl 4 rfl) ?_
      refine va_zald hx hb hK hP (4 + p0.toNatClampNeg) (3 + p0.toNatClampNeg) (wR_row A u hj_p0) (tyR_row A hj_p0) (vp_in_nI (by omega) (by omega)) dX3_walk_35 ?_
      rw [nI_clamp (n := i) (by omega)]
      refine lv_if_ne (tgt := 42) hx hb dX3_walk_36 (by decide) (fun c3 => ?_) (fun c3 => ?_)
      · have c3 := b1t (b := _) c3
        refine lv_iinc (v := nI (wkf (u.1 p0.toNatClampNeg) 0 (i + 1) (0, 0)).1) (lv' := [(4, .int (nI (wkf (u.1 p0.toNatClampNeg) 0 (i + 1) (0, 0)).1)), (0, .ref (mh_ A)), (1, .int p0), (2, .long (lN (wkf (u.1 p0.toNatClampNeg) 0 i (0, 0)).2)), (5, .int (nI i))]) hx hb dX3_walk_42 hl (k := 3) rfl (wk_r c3) (by decide) rfl (fun ls hl => ?_)
        refine lv_lload_n hx hb dX3_walk_45 rfl (lv_at hl 3 rfl) ?_
        refine lv_iload hx hb dX3_walk_46 (lv_at hl 4 rfl) ?_
        refine lv_i2l hx hb dX3_walk_48 rfl ?_
        refine lv_iload hx hb dX3_walk_49 (lv_at hl 0 rfl) ?_
        refine lv_i2l hx hb dX3_walk_51 rfl ?_
        refine lv_lmul hx hb dX3_walk_52 ?_
        refine lv_ladd hx hb dX3_walk_53 ?_
        refine lv_topl (fun z4 ez4 => ?_)
        obtain rfl : z4 = lN (wkf (u.1 p0.toNatClampNeg) 0 (i + 1) (0, 0)).2 := ez4.trans (wk_s (by omega) c3)
        refine lv_lstore_n (lv' := [(2, .long (lN (wkf (u.1 p0.toNatClampNeg) 0 (i + 1) (0, 0)).2)), (4, .int (nI (wkf (u.1 p0.toNatClampNeg) 0 (i + 1) (0, 0)).1)), (0, .ref (mh_ A)), (1, .int p0), (5, .int (nI i))]) hx hb dX3_walk_54 rfl hl (by decide) rfl (fun ls hl => ?_)
        refine lv_iinc (v := nI (i + 1)) (lv' := [(5, .int (nI (i + 1))), (2, .long (lN (wkf (u.1 p0.toNatClampNeg) 0 (i + 1) (0, 0)).2)), (4, .int (nI (wkf (u.1 p0.toNatClampNeg) 0 (i + 1) (0, 0)).1)), (0, .ref (mh_ A)), (1, .int p0)]) hx hb dX3_walk_55 hl (k := 4) rfl (nI_1 _) (by decide) rfl (fun ls hl => ?_)
        refine lv_goto (tgt := 19) hx hb dX3_walk_58 (by decide) ?_
        have hv_i : u = u := rfl
        exact ih_i _ _ _ (by omega) ⟨tr_PR hv_i hP, tr_DR hv_i hD, hS, lv_sub hl [3, 4, 1, 2, 0] rfl⟩
      · have c3 := b1f (b := _) c3
        refine lv_goto (tgt := 55) hx hb dX3_walk_39 (by decide) ?_
        refine lv_iinc (v := nI (i + 1)) (lv' := [(5, .int (nI (i + 1))), (0, .ref (mh_ A)), (1, .int p0), (2, .long (lN (wkf (u.1 p0.toNatClampNeg) 0 i (0, 0)).2)), (4, .int (nI (wkf (u.1 p0.toNatClampNeg) 0 i (0, 0)).1))]) hx hb dX3_walk_55 hl (k := 4) rfl (nI_1 _) (by decide) rfl (fun ls hl => ?_)
        refine lv_goto (tgt := 19) hx hb dX3_walk_58 (by decide) ?_
        have hv_i : u = u := rfl
        exact ih_i _ _ _ (by omega) ⟨tr_PR hv_i hP, tr_DR hv_i hD, hS, (by rw [wk_n c3]; exact lv_sub hl [1, 2, 3, 4, 0] rfl)⟩
  · refine lv_ldc2 (v := 4611686018427387904) hx hb hown (hw _ tw_317) dX3_walk_7 ?_
    exact W.lret hx hb hr (fun t9 ht9 hW => ⟨⟨_, u, rfl, Or.inr ⟨fun h => h c1, rfl, rfl⟩, by rw [ht9]; exact hP, va_K.moved hW.alike hK, hD⟩, hS.F ht9⟩) hS.2.2 dX3_walk_10
set_option maxHeartbeats 4000000 in
set_option maxRecDepth 100000 in
theorem c_X3_word (l : Launch) (dC : Nat → ClassId) (dI : Nat → Nat → Nat) (A : AdR) (u : StR)  (p0 : Int32) (p1 : Int32) : gMl l yX3_word wX3_word ({ frames := 1, cells := 0, slots := 0, locals := 20 }) (dC, dI) bwCl (tyR A) (wR A) (aR A) [.ref (mh_ A), .int p0, .int p1] u (fun r v => ((¬ (fX3_isRow p0) = 0 ∧ ¬ p1 < 0 ∧ p1 ≤ 62) ∧ (r = lN (hwN (wdG (u.1 p0.toNatClampNeg) p1.toNatClampNeg) 64) ∧ u = v)) ∨ (¬ (¬ (fX3_isRow p0) = 0 ∧ ¬ p1 < 0 ∧ p1 ≤ 62) ∧ r = 4611686018427387904 ∧ u = v)) := by
  unfold gMl
  intro sz
  refine Met.ofW (cc := cX3_word) (maxL := 6) (ret := (some .long)) (by decide) rfl ?_
  intro p e s m args below meth c s₁ B hml hv
  obtain ⟨rfl, hsz, hP, hK, hD⟩ := hv
  subst hsz
  have hS : va_S (aR A s.heap.size) s.heap s.heap [] := va_S.rf
  have hx := B.exec
  have hb := B.bytes
  have hr := B.returns
  have hts := atoms_spec (ws := wX3_word) B.pre
  have hw : ∀ w ∈ tg_, w.before _ s = true := fun w h => hts w (List.mem_cons_of_mem _ h)
  have hown : s.vm.findClass RX3 = some m.cls := findClass_of_methodNamed B.named
  have hlocks := B.notSynchronized
  have hl := lv_entry ([.ref (mh_ A), .int p0, .int p1]) (n := 6) (Nat.le_of_ble_eq_true rfl)
  rw [lg_entry_eq]
  generalize (lg_sl ([.ref (mh_ A), .int p0, .int p1]) ++ List.replicate (6 - (lg_sl ([.ref (mh_ A), .int p0, .int p1])).length) Slot.unset).toArray = ls at hl ⊢
  have hl : lv_has ls 6 [(0, .ref (mh_ A)), (1, .int p0), (2, .int p1)] := hl
  refine lv_iload_n hx hb dX3_word_0 rfl (lv_at hl 1 rfl) ?_
  refine vp_callSi (W.runS (As := [.int p0]) (rest := []) ⟨hx, hb, hml, hown, hts⟩ (c_X3_isRow l p0) (va_cwS 1 hts (gi_S hbc tw_261 tw_262 tw_4 tw_263) rfl rfl rfl (by decide +kernel) ⟨Nat.le_of_ble_eq_true rfl, Nat.le_of_ble_eq_true rfl⟩) preEq rfl rfl hl.1 rfl (lv_room (Nat.le_of_ble_eq_true rfl)) dX3_word_1 ⟨Nat.le_of_ble_eq_true rfl, Nat.le_of_ble_eq_true rfl⟩) (fun r hq => ?_)
  subst hq
  refine lv_if_eq (tgt := 17) hx hb dX3_word_4 (by decide) (fun c1 => ?_) (fun c1 => ?_)
  · refine lv_ldc2 (v := 4611686018427387904) hx hb hown (hw _ tw_317) dX3_word_17 ?_
    exact W.lret hx hb hr (fun t9 ht9 hW => ⟨⟨_, u, rfl, Or.inr ⟨fun h => h.1 c1, rfl, rfl⟩, by rw [ht9]; exact hP, va_K.moved hW.alike hK, hD⟩, hS.F ht9⟩) hS.2.2 dX3_word_20
  · have hj_p0 := row_lt (p := p0) c1
    refine lv_iload_n hx hb dX3_word_7 rfl (lv_at hl 2 rfl) ?_
    refine lv_if_lt (tgt := 17) hx hb dX3_word_8 (by decide) (fun c2 => ?_) (fun c2 => ?_)
    · refine lv_ldc2 (v := 4611686018427387904) hx hb hown (hw _ tw_317) dX3_word_17 ?_
      exact W.lret hx hb hr (fun t9 ht9 hW => ⟨⟨_, u, rfl, Or.inr ⟨fun h => h.2.1 c2, rfl, rfl⟩, by rw [ht9]; exact hP, va_K.moved hW.alike hK, hD⟩, hS.F ht9⟩) hS.2.2 dX3_word_20
    · refine lv_iload_n hx hb dX3_word_11 rfl (lv_at hl 2 rfl) ?_
      refine lv_bipush (v := 62) hx hb dX3_word_12 (by decide) ?_
      refine lv_icmp_le (tgt := 21) hx hb dX3_word_14 (by decide) (fun c3 => ?_) (fun c3 => ?_)
      · have hwn := wd_n c2 c3
        refine lv_lconst (v := 0) hx hb dX3_word_21 (by decide) ?_
        refine lv_lstore_n (lv' := [(3, .long 0), (0, .ref (mh_ A)), (1, .int p0), (2, .int p1)]) hx hb dX3_word_22 rfl hl (by decide) rfl (fun ls hl => ?_)
        refine lv_bipush (v := 63) hx hb dX3_word_23 (by decide) ?_
        refine lv_istore (lv' := [(5, .int 63), (3, .long 0), (0, .ref (mh_ A)), (1, .int p0), (2, .int p1)]) hx hb dX3_word_25 hl (by decide) rfl (fun ls hl => ?_)
        refine w_loopD (N := 64) (fun i H locs ls => va_P (dC, dI) bwCl (wR A u) H ∧ va_D (aR A s.heap.size) (wR A u) ∧ va_S (aR A s.heap.size) s.heap H locs ∧ lv_has ls 6 [(0, .ref (mh_ A)), (1, .int p0), (2, .int p1), (3, .long (lN (hwN (wdG (u.1 p0.toNatClampNeg) p1.toNatClampNeg) (64 - i)))), (5, .int (iD i))] ∧ True) ⟨hP, hD, hS, lv_sub hl [2, 3, 4, 1, 0] rfl, trivial⟩ ?_ ?_
        · intro H locs ls hI
          obtain ⟨hP, hD, hS, hl, hF⟩ := hI
          have hl : lv_has ls 6 [(0, .ref (mh_ A)), (1, .int p0), (2, .int p1), (3, .long (lN (hwN (wdG (u.1 p0.toNatClampNeg) p1.toNatClampNeg) (64 - 0)))), (5, .int (-1))] := hl
          refine lv_iload hx hb dX3_word_27 (lv_at hl 4 rfl) ?_
          refine lv_if_lt (tgt := 67) hx hb dX3_word_29 (by decide) (fun c4 => ?_) (fun c4 => ?_)
          · refine lv_lload_n hx hb dX3_word_67 rfl (lv_at hl 3 rfl) ?_
            exact W.lret hx hb hr (fun t9 ht9 hW => ⟨⟨_, u, rfl, Or.inl ⟨⟨c1, c2, c3⟩, ⟨rfl, rfl⟩⟩, by rw [ht9]; exact hP, va_K.moved hW.alike hK, hD⟩, hS.F ht9⟩) hS.2.2 dX3_word_68
          · exact absurd (by decide) c4
        · intro i H locs ls hlt hI ih
          obtain ⟨hP, hD, hS, hl, hF⟩ := hI
          have hl : lv_has ls 6 [(0, .ref (mh_ A)), (1, .int p0), (2, .int p1), (3, .long (lN (hwN (wdG (u.1 p0.toNatClampNeg) p1.toNatClampNeg) (64 - (i + 1))))), (5, .int (nI i))] := hl
          refine lv_iload hx hb dX3_word_27 (lv_at hl 4 rfl) ?_
          refine lv_if_lt (tgt := 67) hx hb dX3_word_29 (by decide) (fun c5 => ?_) (fun c5 => ?_)
          · exact absurd c5 (nI_pos (by omega))
          · refine lv_ldc2 (v := 2) hx hb hown (hw _ tw_318) dX3_word_32 ?_
            refine lv_lload_n hx hb dX3_word_35 rfl (lv_at hl 3 rfl) ?_
            refine lv_lmul hx hb dX3_word_36 ?_
            refine lv_aload_n hx hb dX3_word_37 rfl (lv_at hl 0 rfl) ?_
            refine va_get (D := (dC, dI)) (ci := 3) (v := .ref (mq_ A)) (C := RX3) (T := TX3) (N := 4) hx hb hw igX3 hown hK hP 0 rfl rfl 0 (by decide) (hw _ tw_242) (fun _ h9 => h9) rfl dX3_word_38 ?_
            refine lv_iload_n hx hb dX3_word_41 rfl (lv_at hl 1 rfl) ?_
            refine va_aldz hx hb hK hP 1 0 rfl rfl (row_in (p := p0) c1) dX3_word_42 ?_
            rw [mqF_at A hj_p0]
            refine lv_bipush (v := 64) hx hb dX3_word_43 (by decide) ?_
            refine lv_iload_n hx hb dX3_word_45 rfl (lv_at hl 2 rfl) ?_
            refine lv_imul hx hb dX3_word_46 ?_
            refine lv_iload hx hb dX3_word_47 (lv_at hl 4 rfl) ?_
            refine lv_iadd hx hb dX3_word_49 ?_
            refine lv_topi (fun z6 ez6 => ?_)
            obtain rfl : z6 = nI (64 * p1.toNatClampNeg + i) := ez6.trans (wd_ix hwn)
            refine va_zald hx hb hK hP (4 + p0.toNatClampNeg) (3 + p0.toNatClampNeg) (wR_row A u hj_p0) (tyR_row A hj_p0) (vp_in_nI (by omega) (by omega)) dX3_word_50 ?_
            rw [nI_clamp (n := (64 * p1.toNatClampNeg + i)) (by omega)]
            refine lv_if_eq (tgt := 58) hx hb dX3_word_51 (by decide) (fun c7 => ?_) (fun c7 => ?_)
            · have c7 := b1f (b := _) c7
              refine lv_lconst (v := 0) hx hb dX3_word_58 (by decide) ?_
              refine lv_ladd hx hb dX3_word_59 ?_
              refine lv_topl (fun z8 ez8 => ?_)
              obtain rfl : z8 = lN (hwN (wdG (u.1 p0.toNatClampNeg) p1.toNatClampNeg) (64 - i)) := ez8.trans (hw_0 hlt c7)
              refine lv_lstore_n (lv' := [(3, .long (lN (hwN (wdG (u.1 p0.toNatClampNeg) p1.toNatClampNeg) (64 - i)))), (0, .ref (mh_ A)), (1, .int p0), (2, .int p1), (5, .int (nI i))]) hx hb dX3_word_60 rfl hl (by decide) rfl (fun ls hl => ?_)
              refine lv_iinc (v := iD i) (lv' := [(5, .int (iD i)), (3, .long (lN (hwN (wdG (u.1 p0.toNatClampNeg) p1.toNatClampNeg) (64 - i)))), (0, .ref (mh_ A)), (1, .int p0), (2, .int p1)]) hx hb dX3_word_61 hl (k := 4) rfl (iD_m1 _) (by decide) rfl (fun ls hl => ?_)
              refine lv_goto (tgt := 27) hx hb dX3_word_64 (by decide) ?_
              exact ih _ _ _ ⟨hP, hD, hS, lv_sub hl [2, 3, 4, 1, 0] rfl, trivial⟩
            · have c7 := b1t (b := _) c7
              refine lv_lconst (v := 1) hx hb dX3_word_54 (by decide) ?_
              refine lv_goto (tgt := 59) hx hb dX3_word_55 (by decide) ?_
              refine lv_ladd hx hb dX3_word_59 ?_
              refine lv_topl (fun z9 ez9 => ?_)
              obtain rfl : z9 = lN (hwN (wdG (u.1 p0.toNatClampNeg) p1.toNatClampNeg) (64 - i)) := ez9.trans (hw_1 hlt c7)
              refine lv_lstore_n (lv' := [(3, .long (lN (hwN (wdG (u.1 p0.toNatClampNeg) p1.toNatClampNeg) (64 - i)))), (0, .ref (mh_ A)), (1, .int p0), (2, .int p1), (5, .int (nI i))]) hx hb dX3_word_60 rfl hl (by decide) rfl (fun ls hl => ?_)
              refine lv_iinc (v := iD i) (lv' := [(5, .int (iD i)), (3, .long (lN (hwN (wdG (u.1 p0.toNatClampNeg) p1.toNatClampNeg) (64 - i)))), (0, .ref (mh_ A)), (1, .int p0), (2, .int p1)]) hx hb dX3_word_61 hl (k := 4) rfl (iD_m1 _) (by decide) rfl (fun ls hl => ?_)
              refine lv_goto (tgt := 27) hx hb dX3_word_64 (by decide) ?_
              exact ih _ _ _ ⟨hP, hD, hS, lv_sub hl [2, 3, 4, 1, 0] rfl, trivial⟩
      · refine lv_ldc2 (v := 4611686018427387904) hx hb hown (hw _ tw_317) dX3_word_17 ?_
        exact W.lret hx hb hr (fun t9 ht9 hW => ⟨⟨_, u, rfl, Or.inr ⟨fun h => c3 h.2.2, rfl, rfl⟩, by rw [ht9]; exact hP, va_K.moved hW.alike hK, hD⟩, hS.F ht9⟩) hS.2.2 dX3_word_20
set_option maxHeartbeats 4000000 in
set_option maxRecDepth 100000 in
theorem c_X3_next (l : Launch) (dC : Nat → ClassId) (dI : Nat → Nat → Nat) (A : AdR) (u : StR)  (p0 : Int32) (p1 : Int32) (p2 : Int32) : gMi l yX3_next wX3_next ({ frames := 1, cells := 0, slots := 0, locals := 20 }) (dC, dI) bwCl (tyR A) (wR A) (aR A) [.ref (mh_ A), .int p0, .int p1, .int p2] u (fun r v => ((¬ (fX3_isRow p0) = 0 ∧ ¬ p1 < 0 ∧ ¬ 3 < p1 ∧ ¬ (fX3_isPlace p2) = 0) ∧ (((p1 - p1 / 2 * 2 = 0 ∧ ¬ 2 ≤ p1) ∧ fpG (u.1 p0.toNatClampNeg) true p2.toNatClampNeg (-1) r) ∨ ((¬ p1 - p1 / 2 * 2 = 0 ∧ ¬ 2 ≤ p1) ∧ fpG (u.1 p0.toNatClampNeg) false p2.toNatClampNeg 4032 r) ∨ ((p1 - p1 / 2 * 2 = 0 ∧ 2 ≤ p1) ∧ fpH (u.1 p0.toNatClampNeg) true p2.toNatClampNeg r) ∨ ((¬ p1 - p1 / 2 * 2 = 0 ∧ 2 ≤ p1) ∧ fpH (u.1 p0.toNatClampNeg) false p2.toNatClampNeg r)) ∧ u = v) ∨ (¬ (¬ (fX3_isRow p0) = 0 ∧ ¬ p1 < 0 ∧ ¬ 3 < p1 ∧ ¬ (fX3_isPlace p2) = 0) ∧ r = -2 ∧ u = v)) := by
  unfold gMi
  intro sz
  refine Met.ofW (cc := cX3_next) (maxL := 6) (ret := (some .int)) (by decide) rfl ?_
  intro p e s m args below meth c s₁ B hml hv
  obtain ⟨rfl, hsz, hP, hK, hD⟩ := hv
  subst hsz
  have hS : va_S (aR A s.heap.size) s.heap s.heap [] := va_S.rf
  have hx := B.exec
  have hb := B.bytes
  have hr := B.returns
  have hts := atoms_spec (ws := wX3_next) B.pre
  have hw : ∀ w ∈ tg_, w.before _ s = true := fun w h => hts w (List.mem_cons_of_mem _ h)
  have hown : s.vm.findClass RX3 = some m.cls := findClass_of_methodNamed B.named
  have hlocks := B.notSynchronized
  have hl := lv_entry ([.ref (mh_ A), .int p0, .int p1, .int p2]) (n := 6) (Nat.le_of_ble_eq_true rfl)
  rw [lg_entry_eq]
  generalize (lg_sl ([.ref (mh_ A), .int p0, .int p1, .int p2]) ++ List.replicate (6 - (lg_sl ([.ref (mh_ A), .int p0, .int p1, .int p2])).length) Slot.unset).toArray = ls at hl ⊢
  have hl : lv_has ls 6 [(0, .ref (mh_ A)), (1, .int p0), (2, .int p1), (3, .int p2)] := hl
  refine lv_iload_n hx hb dX3_next_0 rfl (lv_at hl 1 rfl) ?_
  refine vp_callSi (W.runS (As := [.int p0]) (rest := []) ⟨hx, hb, hml, hown, hts⟩ (c_X3_isRow l p0) (va_cwS 1 hts (gi_S hbc tw_261 tw_262 tw_4 tw_263) rfl rfl rfl (by decide +kernel) ⟨Nat.le_of_ble_eq_true rfl, Nat.le_of_ble_eq_true rfl⟩) preEq rfl rfl hl.1 rfl (lv_room (Nat.le_of_ble_eq_true rfl)) dX3_next_1 ⟨Nat.le_of_ble_eq_true rfl, Nat.le_of_ble_eq_true rfl⟩) (fun r hq => ?_)
  subst hq
  refine lv_if_eq (tgt := 23) hx hb dX3_next_4 (by decide) (fun c1 => ?_) (fun c1 => ?_)
  · refine lv_bipush (v := -2) hx hb dX3_next_23 (by decide) ?_
    exact W.iret hx hb hr (fun t9 ht9 hW => ⟨⟨_, u, rfl, Or.inr ⟨fun h => h.1 c1, rfl, rfl⟩, by rw [ht9]; exact hP, va_K.moved hW.alike hK, hD⟩, hS.F ht9⟩) hS.2.2 dX3_next_25
  · have hj_p0 := row_lt (p := p0) c1
    refine lv_iload_n hx hb dX3_next_7 rfl (lv_at hl 2 rfl) ?_
    refine lv_if_lt (tgt := 23) hx hb dX3_next_8 (by decide) (fun c2 => ?_) (fun c2 => ?_)
    · refine lv_bipush (v := -2) hx hb dX3_next_23 (by decide) ?_
      exact W.iret hx hb hr (fun t9 ht9 hW => ⟨⟨_, u, rfl, Or.inr ⟨fun h => h.2.1 c2, rfl, rfl⟩, by rw [ht9]; exact hP, va_K.moved hW.alike hK, hD⟩, hS.F ht9⟩) hS.2.2 dX3_next_25
    · refine lv_iload_n hx hb dX3_next_11 rfl (lv_at hl 2 rfl) ?_
      refine lv_iconst (v := 3) hx hb dX3_next_12 (by decide) ?_
      refine lv_icmp_gt (tgt := 23) hx hb dX3_next_13 (by decide) (fun c3 => ?_) (fun c3 => ?_)
      · refine lv_bipush (v := -2) hx hb dX3_next_23 (by decide) ?_
        exact W.iret hx hb hr (fun t9 ht9 hW => ⟨⟨_, u, rfl, Or.inr ⟨fun h => h.2.2.1 c3, rfl, rfl⟩, by rw [ht9]; exact hP, va_K.moved hW.alike hK, hD⟩, hS.F ht9⟩) hS.2.2 dX3_next_25
      · refine lv_iload_n hx hb dX3_next_16 rfl (lv_at hl 3 rfl) ?_
        refine vp_callSi (W.runS (As := [.int p2]) (rest := []) ⟨hx, hb, hml, hown, hts⟩ (c_X3_isPlace l p2) (va_cwS 1 hts (gi_S hbc tw_264 tw_265 tw_4 tw_266) rfl rfl rfl (by decide +kernel) ⟨Nat.le_of_ble_eq_true rfl, Nat.le_of_ble_eq_true rfl⟩) preEq rfl rfl hl.1 rfl (lv_room (Nat.le_of_ble_eq_true rfl)) dX3_next_17 ⟨Nat.le_of_ble_eq_true rfl, Nat.le_of_ble_eq_true rfl⟩) (fun r hq => ?_)
        subst hq
        refine lv_if_ne (tgt := 26) hx hb dX3_next_20 (by decide) (fun c4 => ?_) (fun c4 => ?_)
        · have hpl := pl_n c4
          refine lv_iload_n hx hb dX3_next_26 rfl (lv_at hl 2 rfl) ?_
          refine lv_iconst (v := 2) hx hb dX3_next_27 (by decide) ?_
          refine lv_irem hx hb dX3_next_28 (by decide) ?_
          refine lv_if_ne (tgt := 36) hx hb dX3_next_29 (by decide) (fun c5 => ?_) (fun c5 => ?_)
          · refine lv_iconst (v := 0) hx hb dX3_next_36 (by decide) ?_
            refine lv_istore (lv' := [(4, .int 0), (0, .ref (mh_ A)), (1, .int p0), (2, .int p1), (3, .int p2)]) hx hb dX3_next_37 hl (by decide) rfl (fun ls hl => ?_)
            refine lv_iload_n hx hb dX3_next_39 rfl (lv_at hl 3 rfl) ?_
            refine lv_iconst (v := 2) hx hb dX3_next_40 (by decide) ?_
            refine lv_icmp_ge (tgt := 101) hx hb dX3_next_41 (by decide) (fun c6 => ?_) (fun c6 => ?_)
            · refine lv_iload_n hx hb dX3_next_101 rfl (lv_at hl 4 rfl) ?_
              refine lv_topi (fun z7 ez7 => ?_)
              obtain rfl : z7 = nI p2.toNatClampNeg := ez7.trans hpl.1
              refine lv_istore (lv' := [(5, .int (nI p2.toNatClampNeg)), (4, .int 0), (0, .ref (mh_ A)), (1, .int p0), (2, .int p1), (3, .int p2)]) hx hb dX3_next_102 hl (by decide) rfl (fun ls hl => ?_)
              refine w_loopD (N := (p2.toNatClampNeg + 1)) (fun i H locs ls => va_P (dC, dI) bwCl (wR A u) H ∧ va_D (aR A s.heap.size) (wR A u) ∧ va_S (aR A s.heap.size) s.heap H locs ∧ lv_has ls 6 [(0, .ref (mh_ A)), (1, .int p0), (2, .int p1), (3, .int p2), (4, .int 0), (5, .int (iD i))] ∧ (∀ k, i ≤ k → k ≤ p2.toNatClampNeg → u.1 p0.toNatClampNeg k = true)) ⟨hP, hD, hS, lv_sub hl [2, 3, 4, 5, 1, 0] rfl, fun k h1 h2 => absurd h2 (by omega)⟩ ?_ ?_
              · intro H locs ls hI
                obtain ⟨hP, hD, hS, hl, hF⟩ := hI
                have hl : lv_has ls 6 [(0, .ref (mh_ A)), (1, .int p0), (2, .int p1), (3, .int p2), (4, .int 0), (5, .int (-1))] := hl
                refine lv_iload hx hb dX3_next_104 (lv_at hl 5 rfl) ?_
                refine lv_if_lt (tgt := 129) hx hb dX3_next_106 (by decide) (fun c8 => ?_) (fun c8 => ?_)
                · refine lv_iload hx hb dX3_next_129 (lv_at hl 5 rfl) ?_
                  exact W.iret hx hb hr (fun t9 ht9 hW => ⟨⟨_, u, rfl, Or.inl ⟨⟨c1, c2, c3, c4⟩, ⟨Or.inr (Or.inr (Or.inr (⟨⟨c5, c6⟩, Or.inr ⟨fun k hk => hF k (Nat.zero_le _) hk, rfl⟩⟩))), rfl⟩⟩, by rw [ht9]; exact hP, va_K.moved hW.alike hK, hD⟩, hS.F ht9⟩) hS.2.2 dX3_next_131
                · exact absurd (by decide) c8
              · intro i H locs ls hlt hI ih
                obtain ⟨hP, hD, hS, hl, hF⟩ := hI
                have hl : lv_has ls 6 [(0, .ref (mh_ A)), (1, .int p0), (2, .int p1), (3, .int p2), (4, .int 0), (5, .int (nI i))] := hl
                refine lv_iload hx hb dX3_next_104 (lv_at hl 5 rfl) ?_
                refine lv_if_lt (tgt := 129) hx hb dX3_next_106 (by decide) (fun c9 => ?_) (fun c9 => ?_)
                · exact absurd c9 (nI_pos (by omega))
                · refine lv_aload_n hx hb dX3_next_109 rfl (lv_at hl 0 rfl) ?_
                  refine va_get (D := (dC, dI)) (ci := 3) (v := .ref (mq_ A)) (C := RX3) (T := TX3) (N := 4) hx hb hw igX3 hown hK hP 0 rfl rfl 0 (by decide) (hw _ tw_242) (fun _ h9 => h9) rfl dX3_next_110 ?_
                  refine lv_iload_n hx hb dX3_next_113 rfl (lv_at hl 1 rfl) ?_
                  refine va_aldz hx hb hK hP 1 0 rfl rfl (row_in (p := p0) c1) dX3_next_114 ?_
                  rw [mqF_at A hj_p0]
                  refine lv_iload hx hb dX3_next_115 (lv_at hl 5 rfl) ?_
                  refine va_zald hx hb hK hP (4 + p0.toNatClampNeg) (3 + p0.toNatClampNeg) (wR_row A u hj_p0) (tyR_row A hj_p0) (vp_in_nI (by omega) (by omega)) dX3_next_117 ?_
                  rw [nI_clamp (n := i) (by omega)]
                  refine lv_iload hx hb dX3_next_118 (lv_at hl 4 rfl) ?_
                  refine lv_icmp_eq (tgt := 129) hx hb dX3_next_120 (by decide) (fun c10 => ?_) (fun c10 => ?_)
                  · have c10 := b1f (b := _) c10
                    refine lv_iload hx hb dX3_next_129 (lv_at hl 5 rfl) ?_
                    exact W.iret hx hb hr (fun t9 ht9 hW => ⟨⟨_, u, rfl, Or.inl ⟨⟨c1, c2, c3, c4⟩, ⟨Or.inr (Or.inr (Or.inr (⟨⟨c5, c6⟩, Or.inl ⟨i, by omega, c10, fun k h1 h2 => hF k h1 h2, rfl⟩⟩))), rfl⟩⟩, by rw [ht9]; exact hP, va_K.moved hW.alike hK, hD⟩, hS.F ht9⟩) hS.2.2 dX3_next_131
                  · have c10 := b1t (b := _) c10
                    refine lv_iinc (v := iD i) (lv' := [(5, .int (iD i)), (0, .ref (mh_ A)), (1, .int p0), (2, .int p1), (3, .int p2), (4, .int 0)]) hx hb dX3_next_123 hl (k := 5) rfl (iD_m1 _) (by decide) rfl (fun ls hl => ?_)
                    refine lv_goto (tgt := 104) hx hb dX3_next_126 (by decide) ?_
                    exact ih _ _ _ ⟨hP, hD, hS, lv_sub hl [1, 2, 3, 4, 5, 0] rfl, ny_s hF c10⟩
            · refine lv_iload_n hx hb dX3_next_44 rfl (lv_at hl 4 rfl) ?_
              refine lv_topi (fun z11 ez11 => ?_)
              obtain rfl : z11 = nI p2.toNatClampNeg := ez11.trans hpl.1
              refine lv_istore (lv' := [(5, .int (nI p2.toNatClampNeg)), (4, .int 0), (0, .ref (mh_ A)), (1, .int p0), (2, .int p1), (3, .int p2)]) hx hb dX3_next_45 hl (by decide) rfl (fun ls hl => ?_)
              have hu_i : u = u := rfl
              refine w_loop (N := 4032) (i0 := p2.toNatClampNeg) (fun i H locs ls => va_P (dC, dI) bwCl (wR A u) H ∧ va_D (aR A s.heap.size) (wR A u) ∧ va_S (aR A s.heap.size) s.heap H locs ∧ lv_has ls 6 [(0, .ref (mh_ A)), (1, .int p0), (2, .int p1), (3, .int p2), (4, .int 0), (5, .int (nI i))] ∧ (∀ k, p2.toNatClampNeg ≤ k → k < i → u.1 p0.toNatClampNeg k = true)) hpl.2.1 ⟨tr_PR hu_i hP, tr_DR hu_i hD, hS, lv_sub hl [2, 3, 4, 5, 1, 0] rfl, fun k h1 h2 => absurd h2 (by omega)⟩ ?_
              intro i H locs ls hz_i hi_i hI ih_i
              obtain ⟨hP, hD, hS, hl, hF_i⟩ := hI
              refine lv_iload hx hb dX3_next_47 (lv_at hl 5 rfl) ?_
              refine lv_sipush (v := 4032) hx hb dX3_next_49 (by decide) ?_
              refine lv_icmp_ge (tgt := 75) hx hb dX3_next_52 (by decide) (fun c12 => ?_) (fun c12 => ?_)
              · obtain rfl : i = 4032 := lp_out (n := 4032) rfl hi_i (by decide) c12
                refine lv_iload hx hb dX3_next_75 (lv_at hl 5 rfl) ?_
                refine lv_sipush (v := 4032) hx hb dX3_next_77 (by decide) ?_
                refine lv_icmp_ge (tgt := 88) hx hb dX3_next_80 (by decide) (fun c13 => ?_) (fun c13 => ?_)
                · refine lv_iload hx hb dX3_next_88 (lv_at hl 4 rfl) ?_
                  refine lv_if_eq (tgt := 97) hx hb dX3_next_90 (by decide) (fun c14 => ?_) (fun c14 => ?_)
                  · refine lv_sipush (v := 4032) hx hb dX3_next_97 (by decide) ?_
                    exact W.iret hx hb hr (fun t9 ht9 hW => ⟨⟨_, u, rfl, Or.inl ⟨⟨c1, c2, c3, c4⟩, ⟨Or.inr (Or.inl ⟨⟨c5, c6⟩, Or.inr ⟨hF_i, rfl⟩⟩), rfl⟩⟩, by rw [ht9]; exact hP, va_K.moved hW.alike hK, hD⟩, hS.F ht9⟩) hS.2.2 dX3_next_100
                  · exact absurd rfl c14
                · exact absurd (i_rf _) c13
              · have hlt_i : i < 4032 := lp_in (n := 4032) rfl hi_i c12
                refine lv_aload_n hx hb dX3_next_55 rfl (lv_at hl 0 rfl) ?_
                refine va_get (D := (dC, dI)) (ci := 3) (v := .ref (mq_ A)) (C := RX3) (T := TX3) (N := 4) hx hb hw igX3 hown hK hP 0 rfl rfl 0 (by decide) (hw _ tw_242) (fun _ h9 => h9) rfl dX3_next_56 ?_
                refine lv_iload_n hx hb dX3_next_59 rfl (lv_at hl 1 rfl) ?_
                refine va_aldz hx hb hK hP 1 0 rfl rfl (row_in (p := p0) c1) dX3_next_60 ?_
                rw [mqF_at A hj_p0]
                refine lv_iload hx hb dX3_next_61 (lv_at hl 5 rfl) ?_
                refine va_zald hx hb hK hP (4 + p0.toNatClampNeg) (3 + p0.toNatClampNeg) (wR_row A u hj_p0) (tyR_row A hj_p0) (vp_in_nI (by omega) (by omega)) dX3_next_63 ?_
                rw [nI_clamp (n := i) (by omega)]
                refine lv_iload hx hb dX3_next_64 (lv_at hl 4 rfl) ?_
                refine lv_icmp_eq (tgt := 75) hx hb dX3_next_66 (by decide) (fun c15 => ?_) (fun c15 => ?_)
                · have c15 := b1f (b := _) c15
                  refine lv_iload hx hb dX3_next_75 (lv_at hl 5 rfl) ?_
                  refine lv_sipush (v := 4032) hx hb dX3_next_77 (by decide) ?_
                  refine lv_icmp_ge (tgt := 88) hx hb dX3_next_80 (by decide) (fun c16 => ?_) (fun c16 => ?_)
                  · exact absurd c16 (nI_ge (b := 4032) hlt_i (by decide))
                  · refine lv_iload hx hb dX3_next_83 (lv_at hl 5 rfl) ?_
                    refine lv_goto (tgt := 100) hx hb dX3_next_85 (by decide) ?_
                    exact W.iret hx hb hr (fun t9 ht9 hW => ⟨⟨_, u, rfl, Or.inl ⟨⟨c1, c2, c3, c4⟩, ⟨Or.inr (Or.inl ⟨⟨c5, c6⟩, Or.inl ⟨i, hz_i, hlt_i, c15, hF_i, rfl⟩⟩), rfl⟩⟩, by rw [ht9]; exact hP, va_K.moved hW.alike hK, hD⟩, hS.F ht9⟩) hS.2.2 dX3_next_100
                · have c15 := b1t (b := _) c15
                  refine lv_iinc (v := nI (i + 1)) (lv' := [(5, .int (nI (i + 1))), (0, .ref (mh_ A)), (1, .int p0), (2, .int p1), (3, .int p2), (4, .int 0)]) hx hb dX3_next_69 hl (k := 5) rfl (nI_1 _) (by decide) rfl (fun ls hl => ?_)
                  refine lv_goto (tgt := 47) hx hb dX3_next_72 (by decide) ?_
                  have hv_i : u = u := rfl
                  exact ih_i _ _ _ (by omega) ⟨tr_PR hv_i hP, tr_DR hv_i hD, hS, lv_sub hl [1, 2, 3, 4, 5, 0] rfl, nx_s hF_i c15⟩
          · refine lv_iconst (v := 1) hx hb dX3_next_32 (by decide) ?_
            refine lv_goto (tgt := 37) hx hb dX3_next_33 (by decide) ?_
            refine lv_istore (lv' := [(4, .int 1), (0, .ref (mh_ A)), (1, .int p0), (2, .int p1), (3, .int p2)]) hx hb dX3_next_37 hl (by decide) rfl (fun ls hl => ?_)
            refine lv_iload_n hx hb dX3_next_39 rfl (lv_at hl 3 rfl) ?_
            refine lv_iconst (v := 2) hx hb dX3_next_40 (by decide) ?_
            refine lv_icmp_ge (tgt := 101) hx hb dX3_next_41 (by decide) (fun c17 => ?_) (fun c17 => ?_)
            · refine lv_iload_n hx hb dX3_next_101 rfl (lv_at hl 4 rfl) ?_
              refine lv_topi (fun z18 ez18 => ?_)
              obtain rfl : z18 = nI p2.toNatClampNeg := ez18.trans hpl.1
              refine lv_istore (lv' := [(5, .int (nI p2.toNatClampNeg)), (4, .int 1), (0, .ref (mh_ A)), (1, .int p0), (2, .int p1), (3, .int p2)]) hx hb dX3_next_102 hl (by decide) rfl (fun ls hl => ?_)
              refine w_loopD (N := (p2.toNatClampNeg + 1)) (fun i H locs ls => va_P (dC, dI) bwCl (wR A u) H ∧ va_D (aR A s.heap.size) (wR A u) ∧ va_S (aR A s.heap.size) s.heap H locs ∧ lv_has ls 6 [(0, .ref (mh_ A)), (1, .int p0), (2, .int p1), (3, .int p2), (4, .int 1), (5, .int (iD i))] ∧ (∀ k, i ≤ k → k ≤ p2.toNatClampNeg → u.1 p0.toNatClampNeg k = false)) ⟨hP, hD, hS, lv_sub hl [2, 3, 4, 5, 1, 0] rfl, fun k h1 h2 => absurd h2 (by omega)⟩ ?_ ?_
              · intro H locs ls hI
                obtain ⟨hP, hD, hS, hl, hF⟩ := hI
                have hl : lv_has ls 6 [(0, .ref (mh_ A)), (1, .int p0), (2, .int p1), (3, .int p2), (4, .int 1), (5, .int (-1))] := hl
                refine lv_iload hx hb dX3_next_104 (lv_at hl 5 rfl) ?_
                refine lv_if_lt (tgt := 129) hx hb dX3_next_106 (by decide) (fun c19 => ?_) (fun c19 => ?_)
                · refine lv_iload hx hb dX3_next_129 (lv_at hl 5 rfl) ?_
                  exact W.iret hx hb hr (fun t9 ht9 hW => ⟨⟨_, u, rfl, Or.inl ⟨⟨c1, c2, c3, c4⟩, ⟨Or.inr (Or.inr (Or.inl ⟨⟨c5, c17⟩, Or.inr ⟨fun k hk => hF k (Nat.zero_le _) hk, rfl⟩⟩)), rfl⟩⟩, by rw [ht9]; exact hP, va_K.moved hW.alike hK, hD⟩, hS.F ht9⟩) hS.2.2 dX3_next_131
                · exact absurd (by decide) c19
              · intro i H locs ls hlt hI ih
                obtain ⟨hP, hD, hS, hl, hF⟩ := hI
                have hl : lv_has ls 6 [(0, .ref (mh_ A)), (1, .int p0), (2, .int p1), (3, .int p2), (4, .int 1), (5, .int (nI i))] := hl
                refine lv_iload hx hb dX3_next_104 (lv_at hl 5 rfl) ?_
                refine lv_if_lt (tgt := 129) hx hb dX3_next_106 (by decide) (fun c20 => ?_) (fun c20 => ?_)
                · exact absurd c20 (nI_pos (by omega))
                · refine lv_aload_n hx hb dX3_next_109 rfl (lv_at hl 0 rfl) ?_
                  refine va_get (D := (dC, dI)) (ci := 3) (v := .ref (mq_ A)) (C := RX3) (T := TX3) (N := 4) hx hb hw igX3 hown hK hP 0 rfl rfl 0 (by decide) (hw _ tw_242) (fun _ h9 => h9) rfl dX3_next_110 ?_
                  refine lv_iload_n hx hb dX3_next_113 rfl (lv_at hl 1 rfl) ?_
                  refine va_aldz hx hb hK hP 1 0 rfl rfl (row_in (p := p0) c1) dX3_next_114 ?_
                  rw [mqF_at A hj_p0]
                  refine lv_iload hx hb dX3_next_115 (lv_at hl 5 rfl) ?_
                  refine va_zald hx hb hK hP (4 + p0.toNatClampNeg) (3 + p0.toNatClampNeg) (wR_row A u hj_p0) (tyR_row A hj_p0) (vp_in_nI (by omega) (by omega)) dX3_next_117 ?_
                  rw [nI_clamp (n := i) (by omega)]
                  refine lv_iload hx hb dX3_next_118 (lv_at hl 4 rfl) ?_
                  refine lv_icmp_eq (tgt := 129) hx hb dX3_next_120 (by decide) (fun c21 => ?_) (fun c21 => ?_)
                  · have c21 := b1_1 (b := _) c21
                    refine lv_iload hx hb dX3_next_129 (lv_at hl 5 rfl) ?_
                    exact W.iret hx hb hr (fun t9 ht9 hW => ⟨⟨_, u, rfl, Or.inl ⟨⟨c1, c2, c3, c4⟩, ⟨Or.inr (Or.inr (Or.inl ⟨⟨c5, c17⟩, Or.inl ⟨i, by omega, c21, fun k h1 h2 => hF k h1 h2, rfl⟩⟩)), rfl⟩⟩, by rw [ht9]; exact hP, va_K.moved hW.alike hK, hD⟩, hS.F ht9⟩) hS.2.2 dX3_next_131
                  · have c21 := b1_n (b := _) c21
                    refine lv_iinc (v := iD i) (lv' := [(5, .int (iD i)), (0, .ref (mh_ A)), (1, .int p0), (2, .int p1), (3, .int p2), (4, .int 1)]) hx hb dX3_next_123 hl (k := 5) rfl (iD_m1 _) (by decide) rfl (fun ls hl => ?_)
                    refine lv_goto (tgt := 104) hx hb dX3_next_126 (by decide) ?_
                    exact ih _ _ _ ⟨hP, hD, hS, lv_sub hl [1, 2, 3, 4, 5, 0] rfl, ny_s hF c21⟩
            · refine lv_iload_n hx hb dX3_next_44 rfl (lv_at hl 4 rfl) ?_
              refine lv_topi (fun z22 ez22 => ?_)
              obtain rfl : z22 = nI p2.toNatClampNeg := ez22.trans hpl.1
              refine lv_istore (lv' := [(5, .int (nI p2.toNatClampNeg)), (4, .int 1), (0, .ref (mh_ A)), (1, .int p0), (2, .int p1), (3, .int p2)]) hx hb dX3_next_45 hl (by decide) rfl (fun ls hl => ?_)
              have hu_i : u = u := rfl
              refine w_loop (N := 4032) (i0 := p2.toNatClampNeg) (fun i H locs ls => va_P (dC, dI) bwCl (wR A u) H ∧ va_D (aR A s.heap.size) (wR A u) ∧ va_S (aR A s.heap.size) s.heap H locs ∧ lv_has ls 6 [(0, .ref (mh_ A)), (1, .int p0), (2, .int p1), (3, .int p2), (4, .int 1), (5, .int (nI i))] ∧ (∀ k, p2.toNatClampNeg ≤ k → k < i → u.1 p0.toNatClampNeg k = false)) hpl.2.1 ⟨tr_PR hu_i hP, tr_DR hu_i hD, hS, lv_sub hl [2, 3, 4, 5, 1, 0] rfl, fun k h1 h2 => absurd h2 (by omega)⟩ ?_
              intro i H locs ls hz_i hi_i hI ih_i
              obtain ⟨hP, hD, hS, hl, hF_i⟩ := hI
              refine lv_iload hx hb dX3_next_47 (lv_at hl 5 rfl) ?_
              refine lv_sipush (v := 4032) hx hb dX3_next_49 (by decide) ?_
              refine lv_icmp_ge (tgt := 75) hx hb dX3_next_52 (by decide) (fun c23 => ?_) (fun c23 => ?_)
              · obtain rfl : i = 4032 := lp_out (n := 4032) rfl hi_i (by decide) c23
                refine lv_iload hx hb dX3_next_75 (lv_at hl 5 rfl) ?_
                refine lv_sipush (v := 4032) hx hb dX3_next_77 (by decide) ?_
                refine lv_icmp_ge (tgt := 88) hx hb dX3_next_80 (by decide) (fun c24 => ?_) (fun c24 => ?_)
                · refine lv_iload hx hb dX3_next_88 (lv_at hl 4 rfl) ?_
                  refine lv_if_eq (tgt := 97) hx hb dX3_next_90 (by decide) (fun c25 => ?_) (fun c25 => ?_)
                  · exact absurd c25 (by decide)
                  · refine lv_iconst (v := -1) hx hb dX3_next_93 (by decide) ?_
                    refine lv_goto (tgt := 100) hx hb dX3_next_94 (by decide) ?_
                    exact W.iret hx hb hr (fun t9 ht9 hW => ⟨⟨_, u, rfl, Or.inl ⟨⟨c1, c2, c3, c4⟩, ⟨Or.inl ⟨⟨c5, c17⟩, Or.inr ⟨hF_i, rfl⟩⟩, rfl⟩⟩, by rw [ht9]; exact hP, va_K.moved hW.alike hK, hD⟩, hS.F ht9⟩) hS.2.2 dX3_next_100
                · exact absurd (i_rf _) c24
              · have hlt_i : i < 4032 := lp_in (n := 4032) rfl hi_i c23
                refine lv_aload_n hx hb dX3_next_55 rfl (lv_at hl 0 rfl) ?_
                refine va_get (D := (dC, dI)) (ci := 3) (v := .ref (mq_ A)) (C := RX3) (T := TX3) (N := 4) hx hb hw igX3 hown hK hP 0 rfl rfl 0 (by decide) (hw _ tw_242) (fun _ h9 => h9) rfl dX3_next_56 ?_
                refine lv_iload_n hx hb dX3_next_59 rfl (lv_at hl 1 rfl) ?_
                refine va_aldz hx hb hK hP 1 0 rfl rfl (row_in (p := p0) c1) dX3_next_60 ?_
                rw [mqF_at A hj_p0]
                refine lv_iload hx hb dX3_next_61 (lv_at hl 5 rfl) ?_
                refine va_zald hx hb hK hP (4 + p0.toNatClampNeg) (3 + p0.toNatClampNeg) (wR_row A u hj_p0) (tyR_row A hj_p0) (vp_in_nI (by omega) (by omega)) dX3_next_63 ?_
                rw [nI_clamp (n := i) (by omega)]
                refine lv_iload hx hb dX3_next_64 (lv_at hl 4 rfl) ?_
                refine lv_icmp_eq (tgt := 75) hx hb dX3_next_66 (by decide) (fun c26 => ?_) (fun c26 => ?_)
                · have c26 := b1_1 (b := _) c26
                  refine lv_iload hx hb dX3_next_75 (lv_at hl 5 rfl) ?_
                  refine lv_sipush (v := 4032) hx hb dX3_next_77 (by decide) ?_
                  refine lv_icmp_ge (tgt := 88) hx hb dX3_next_80 (by decide) (fun c27 => ?_) (fun c27 => ?_)
                  · exact absurd c27 (nI_ge (b := 4032) hlt_i (by decide))
                  · refine lv_iload hx hb dX3_next_83 (lv_at hl 5 rfl) ?_
                    refine lv_goto (tgt := 100) hx hb dX3_next_85 (by decide) ?_
                    exact W.iret hx hb hr (fun t9 ht9 hW => ⟨⟨_, u, rfl, Or.inl ⟨⟨c1, c2, c3, c4⟩, ⟨Or.inl ⟨⟨c5, c17⟩, Or.inl ⟨i, hz_i, hlt_i, c26, hF_i, rfl⟩⟩, rfl⟩⟩, by rw [ht9]; exact hP, va_K.moved hW.alike hK, hD⟩, hS.F ht9⟩) hS.2.2 dX3_next_100
                · have c26 := b1_n (b := _) c26
                  refine lv_iinc (v := nI (i + 1)) (lv' := [(5, .int (nI (i + 1))), (0, .ref (mh_ A)), (1, .int p0), (2, .int p1), (3, .int p2), (4, .int 1)]) hx hb dX3_next_69 hl (k := 5) rfl (nI_1 _) (by decide) rfl (fun ls hl => ?_)
                  refine lv_goto (tgt := 47) hx hb dX3_next_72 (by decide) ?_
                  have hv_i : u = u := rfl
                  exact ih_i _ _ _ (by omega) ⟨tr_PR hv_i hP, tr_DR hv_i hD, hS, lv_sub hl [1, 2, 3, 4, 5, 0] rfl, nx_s hF_i c26⟩
        · refine lv_bipush (v := -2) hx hb dX3_next_23 (by decide) ?_
          exact W.iret hx hb hr (fun t9 ht9 hW => ⟨⟨_, u, rfl, Or.inr ⟨fun h => h.2.2.2 c4, rfl, rfl⟩, by rw [ht9]; exact hP, va_K.moved hW.alike hK, hD⟩, hS.F ht9⟩) hS.2.2 dX3_next_25
set_option maxHeartbeats 4000000 in
set_option maxRecDepth 100000 in
theorem c_X3_write (l : Launch) (dC : Nat → ClassId) (dI : Nat → Nat → Nat) (A : AdR) (u : StR) {t : List Int32} (ht : txR u t) (hlen : t.length < 700) (p0 : Int32) : gMv l yX3_write wX3_write ({ frames := 0, cells := 0, slots := 0, locals := 0 }) (dC, dI) bwCl (tyR A) (wR A) (aR A) [.ref (mh_ A), .int p0] u (fun v => (v.1 = u.1 ∧ v.2.1 = u.2.1) ∧ txR v (t ++ [vp_nar .byte p0.toInt8.toInt32])) := by
  unfold gMv
  intro sz
  refine Met.ofW (cc := cX3_write) (maxL := 2) (ret := none) (by decide) rfl ?_
  intro p e s m args below meth c s₁ B hml hv
  obtain ⟨rfl, hsz, hP, hK, hD⟩ := hv
  subst hsz
  have hS : va_S (aR A s.heap.size) s.heap s.heap [] := va_S.rf
  have hx := B.exec
  have hb := B.bytes
  have hr := B.returns
  have hts := atoms_spec (ws := wX3_write) B.pre
  have hw : ∀ w ∈ tg_, w.before _ s = true := fun w h => hts w (List.mem_cons_of_mem _ h)
  have hown : s.vm.findClass RX3 = some m.cls := findClass_of_methodNamed B.named
  have hlocks := B.notSynchronized
  have hl := lv_entry ([.ref (mh_ A), .int p0]) (n := 2) (Nat.le_of_ble_eq_true rfl)
  rw [lg_entry_eq]
  generalize (lg_sl ([.ref (mh_ A), .int p0]) ++ List.replicate (2 - (lg_sl ([.ref (mh_ A), .int p0])).length) Slot.unset).toArray = ls at hl ⊢
  have hl : lv_has ls 2 [(0, .ref (mh_ A)), (1, .int p0)] := hl
  refine lv_aload_n hx hb dX3_write_0 rfl (lv_at hl 0 rfl) ?_
  refine va_get (D := (dC, dI)) (ci := 3) (v := .ref (ms_ A)) (C := RX3) (T := TX3) (N := 4) hx hb hw igX3 hown hK hP 0 rfl rfl 2 (by decide) (hw _ tw_244) (fun _ h9 => h9) rfl dX3_write_1 ?_
  refine lv_aload_n hx hb dX3_write_4 rfl (lv_at hl 0 rfl) ?_
  refine va_get (D := (dC, dI)) (ci := 3) (v := .int u.2.2.2) (C := RX3) (T := TX3) (N := 4) hx hb hw igX3 hown hK hP 0 rfl rfl 3 (by decide) (hw _ tw_245) (fun _ h9 => h9) rfl dX3_write_5 ?_
  refine lv_iload_n hx hb dX3_write_8 rfl (lv_at hl 1 rfl) ?_
  refine lv_i2b hx hb dX3_write_9 rfl ?_
  refine va_bast hx hb hK hP hD hS 3 2 rfl rfl (tr_in ht hlen) dX3_write_10 (fun H locs hP hD hS => ?_)
  have hP : va_P (dC, dI) bwCl (wR A (u.1, u.2.1, upd u.2.2.1 u.2.2.2.toNatClampNeg (vp_nar .byte p0.toInt8.toInt32), u.2.2.2)) H := hP
  have hD : va_D (aR A s.heap.size) (wR A (u.1, u.2.1, upd u.2.2.1 u.2.2.2.toNatClampNeg (vp_nar .byte p0.toInt8.toInt32), u.2.2.2)) := hD
  refine lv_aload_n hx hb dX3_write_11 rfl (lv_at hl 0 rfl) ?_
  refine lv_dup hx hb dX3_write_12 rfl ?_
  refine va_get (D := (dC, dI)) (ci := 3) (v := .int ((u.1, u.2.1, upd u.2.2.1 u.2.2.2.toNatClampNeg (vp_nar .byte p0.toInt8.toInt32), u.2.2.2).2.2.2)) (C := RX3) (T := TX3) (N := 4) hx hb hw igX3 hown hK hP 0 rfl rfl 3 (by decide) (hw _ tw_245) (fun _ h9 => h9) rfl dX3_write_13 ?_
  refine lv_iconst (v := 1) hx hb dX3_write_16 (by decide) ?_
  refine lv_iadd hx hb dX3_write_17 ?_
  refine va_put (D := (dC, dI)) (ci := 3) (v := .int (((u.1, u.2.1, upd u.2.2.1 u.2.2.2.toNatClampNeg (vp_nar .byte p0.toInt8.toInt32), u.2.2.2).2.2.2) + 1)) (ty := .int) (C := RX3) (T := TX3) (N := 4) hx hb hw igX3 tyX3 tyX3_ok nmX3 hown hK hP hD hS 0 rfl rfl 3 (by decide) (hw _ tw_245) (fun _ h9 => h9) rfl (by decide +kernel) rfl rfl (Nat.le_of_ble_eq_true rfl) dX3_write_18 (fun H locs hP hD hS => ?_)
  have hP : va_P (dC, dI) bwCl (wR A ((u.1, u.2.1, upd u.2.2.1 u.2.2.2.toNatClampNeg (vp_nar .byte p0.toInt8.toInt32), u.2.2.2).1, (u.1, u.2.1, upd u.2.2.1 u.2.2.2.toNatClampNeg (vp_nar .byte p0.toInt8.toInt32), u.2.2.2).2.1, (u.1, u.2.1, upd u.2.2.1 u.2.2.2.toNatClampNeg (vp_nar .byte p0.toInt8.toInt32), u.2.2.2).2.2.1, ((u.1, u.2.1, upd u.2.2.1 u.2.2.2.toNatClampNeg (vp_nar .byte p0.toInt8.toInt32), u.2.2.2).2.2.2) + 1)) H := hP
  have hD : va_D (aR A s.heap.size) (wR A ((u.1, u.2.1, upd u.2.2.1 u.2.2.2.toNatClampNeg (vp_nar .byte p0.toInt8.toInt32), u.2.2.2).1, (u.1, u.2.1, upd u.2.2.1 u.2.2.2.toNatClampNeg (vp_nar .byte p0.toInt8.toInt32), u.2.2.2).2.1, (u.1, u.2.1, upd u.2.2.1 u.2.2.2.toNatClampNeg (vp_nar .byte p0.toInt8.toInt32), u.2.2.2).2.2.1, ((u.1, u.2.1, upd u.2.2.1 u.2.2.2.toNatClampNeg (vp_nar .byte p0.toInt8.toInt32), u.2.2.2).2.2.2) + 1)) := hD
  exact W.vret hx hb hr (fun t9 ht9 hW => ⟨⟨((u.1, u.2.1, upd u.2.2.1 u.2.2.2.toNatClampNeg (vp_nar .byte p0.toInt8.toInt32), u.2.2.2).1, (u.1, u.2.1, upd u.2.2.1 u.2.2.2.toNatClampNeg (vp_nar .byte p0.toInt8.toInt32), u.2.2.2).2.1, (u.1, u.2.1, upd u.2.2.1 u.2.2.2.toNatClampNeg (vp_nar .byte p0.toInt8.toInt32), u.2.2.2).2.2.1, ((u.1, u.2.1, upd u.2.2.1 u.2.2.2.toNatClampNeg (vp_nar .byte p0.toInt8.toInt32), u.2.2.2).2.2.2) + 1), rfl, ⟨⟨rfl, rfl⟩, tr_ok _ ht hlen⟩, by rw [ht9]; exact hP, va_K.moved hW.alike hK, hD⟩, hS.F ht9⟩) hS.2.2 dX3_write_21
set_option maxHeartbeats 4000000 in
set_option maxRecDepth 100000 in
theorem c_X3_octet (l : Launch) (dC : Nat → ClassId) (dI : Nat → Nat → Nat) (A : AdR) (u : StR) {t : List Int32} (ht : txR u t) (p0 : Int32) : gMi l yX3_octet wX3_octet ({ frames := 0, cells := 0, slots := 0, locals := 0 }) (dC, dI) bwCl (tyR A) (wR A) (aR A) [.ref (mh_ A), .int p0] u (fun r v => (r = fX3_octet u p0 ∧ u = v)) := by
  unfold gMi
  intro sz
  refine Met.ofW (cc := cX3_octet) (maxL := 2) (ret := (some .int)) (by decide) rfl ?_
  intro p e s m args below meth c s₁ B hml hv
  obtain ⟨rfl, hsz, hP, hK, hD⟩ := hv
  subst hsz
  have hS : va_S (aR A s.heap.size) s.heap s.heap [] := va_S.rf
  have hx := B.exec
  have hb := B.bytes
  have hr := B.returns
  have hts := atoms_spec (ws := wX3_octet) B.pre
  have hw : ∀ w ∈ tg_, w.before _ s = true := fun w h => hts w (List.mem_cons_of_mem _ h)
  have hown : s.vm.findClass RX3 = some m.cls := findClass_of_methodNamed B.named
  have hlocks := B.notSynchronized
  have hl := lv_entry ([.ref (mh_ A), .int p0]) (n := 2) (Nat.le_of_ble_eq_true rfl)
  rw [lg_entry_eq]
  generalize (lg_sl ([.ref (mh_ A), .int p0]) ++ List.replicate (2 - (lg_sl ([.ref (mh_ A), .int p0])).length) Slot.unset).toArray = ls at hl ⊢
  have hl : lv_has ls 2 [(0, .ref (mh_ A)), (1, .int p0)] := hl
  refine lv_iload_n hx hb dX3_octet_0 rfl (lv_at hl 1 rfl) ?_
  refine lv_if_lt (tgt := 12) hx hb dX3_octet_1 (by decide) (fun c1 => ?_) (fun c1 => ?_)
  · refine lv_bipush (v := -2) hx hb dX3_octet_12 (by decide) ?_
    refine lv_goto (tgt := 23) hx hb dX3_octet_14 (by decide) ?_
    exact W.iret hx hb hr (fun t9 ht9 hW => ⟨⟨_, u, rfl, ⟨by unfold fX3_octet; rw [if_pos c1], rfl⟩, by rw [ht9]; exact hP, va_K.moved hW.alike hK, hD⟩, hS.F ht9⟩) hS.2.2 dX3_octet_23
  · refine lv_iload_n hx hb dX3_octet_4 rfl (lv_at hl 1 rfl) ?_
    refine lv_aload_n hx hb dX3_octet_5 rfl (lv_at hl 0 rfl) ?_
    refine va_get (D := (dC, dI)) (ci := 3) (v := .int u.2.2.2) (C := RX3) (T := TX3) (N := 4) hx hb hw igX3 hown hK hP 0 rfl rfl 3 (by decide) (hw _ tw_245) (fun _ h9 => h9) rfl dX3_octet_6 ?_
    refine lv_icmp_lt (tgt := 17) hx hb dX3_octet_9 (by decide) (fun c2 => ?_) (fun c2 => ?_)
    · refine lv_aload_n hx hb dX3_octet_17 rfl (lv_at hl 0 rfl) ?_
      refine va_get (D := (dC, dI)) (ci := 3) (v := .ref (ms_ A)) (C := RX3) (T := TX3) (N := 4) hx hb hw igX3 hown hK hP 0 rfl rfl 2 (by decide) (hw _ tw_244) (fun _ h9 => h9) rfl dX3_octet_18 ?_
      refine lv_iload_n hx hb dX3_octet_21 rfl (lv_at hl 1 rfl) ?_
      refine va_bald hx hb hK hP 3 2 rfl rfl (tr_px ht c1 c2) dX3_octet_22 ?_
      exact W.iret hx hb hr (fun t9 ht9 hW => ⟨⟨_, u, rfl, ⟨by unfold fX3_octet; rw [if_neg c1, if_pos c2], rfl⟩, by rw [ht9]; exact hP, va_K.moved hW.alike hK, hD⟩, hS.F ht9⟩) hS.2.2 dX3_octet_23
    · refine lv_bipush (v := -2) hx hb dX3_octet_12 (by decide) ?_
      refine lv_goto (tgt := 23) hx hb dX3_octet_14 (by decide) ?_
      exact W.iret hx hb hr (fun t9 ht9 hW => ⟨⟨_, u, rfl, ⟨by unfold fX3_octet; rw [if_neg c1, if_neg c2], rfl⟩, by rw [ht9]; exact hP, va_K.moved hW.alike hK, hD⟩, hS.F ht9⟩) hS.2.2 dX3_octet_23
end
section
set_option maxHeartbeats 4000000 in
set_option maxRecDepth 100000 in
theorem c_X3_text (l : Launch) (dC : Nat → ClassId) (dI : Nat → Nat → Nat) (A : AdR) (u : StR)  (p0 : Int32) : gMi l yX3_text wX3_text ({ frames := 1, cells := 0, slots := 0, locals := 22 }) (dC, dI) bwCl (tyR A) (wR A) (aR A) [.ref (mh_ A), .int p0] u (fun r v => ((¬ (fX3_isRow p0) = 0) ∧ (∃ q, peR (u.1 p0.toNatClampNeg) q ∧ ((q ≤ 128 ∧ (v.1 = u.1 ∧ v.2.1 = u.2.1) ∧ txR v (wtT (u.1 p0.toNatClampNeg)) ∧ r = v.2.2.2) ∨ (¬ q ≤ 128 ∧ r = -2 ∧ u = v)))) ∨ (¬ (¬ (fX3_isRow p0) = 0) ∧ r = -2 ∧ u = v)) := by
  unfold gMi
  intro sz
  refine Met.ofW (cc := cX3_text) (maxL := 4) (ret := (some .int)) (by decide) rfl ?_
  intro p e s m args below meth c s₁ B hml hv
  obtain ⟨rfl, hsz, hP, hK, hD⟩ := hv
  subst hsz
  have hS : va_S (aR A s.heap.size) s.heap s.heap [] := va_S.rf
  have hx := B.exec
  have hb := B.bytes
  have hr := B.returns
  have hts := atoms_spec (ws := wX3_text) B.pre
  have hw : ∀ w ∈ tg_, w.before _ s = true := fun w h => hts w (List.mem_cons_of_mem _ h)
  have hown : s.vm.findClass RX3 = some m.cls := findClass_of_methodNamed B.named
  have hlocks := B.notSynchronized
  have hl := lv_entry ([.ref (mh_ A), .int p0]) (n := 4) (Nat.le_of_ble_eq_true rfl)
  rw [lg_entry_eq]
  generalize (lg_sl ([.ref (mh_ A), .int p0]) ++ List.replicate (4 - (lg_sl ([.ref (mh_ A), .int p0])).length) Slot.unset).toArray = ls at hl ⊢
  have hl : lv_has ls 4 [(0, .ref (mh_ A)), (1, .int p0)] := hl
  refine lv_iload_n hx hb dX3_text_0 rfl (lv_at hl 1 rfl) ?_
  refine vp_callSi (W.runS (As := [.int p0]) (rest := []) ⟨hx, hb, hml, hown, hts⟩ (c_X3_isRow l p0) (va_cwS 1 hts (gi_S hbc tw_261 tw_262 tw_4 tw_263) rfl rfl rfl (by decide +kernel) ⟨Nat.le_of_ble_eq_true rfl, Nat.le_of_ble_eq_true rfl⟩) preEq rfl rfl hl.1 rfl (lv_room (Nat.le_of_ble_eq_true rfl)) dX3_text_1 ⟨Nat.le_of_ble_eq_true rfl, Nat.le_of_ble_eq_true rfl⟩) (fun r hq => ?_)
  subst hq
  refine lv_if_eq (tgt := 18) hx hb dX3_text_4 (by decide) (fun c1 => ?_) (fun c1 => ?_)
  · refine lv_bipush (v := -2) hx hb dX3_text_18 (by decide) ?_
    exact W.iret hx hb hr (fun t9 ht9 hW => ⟨⟨_, u, rfl, Or.inr ⟨fun h => h c1, rfl, rfl⟩, by rw [ht9]; exact hP, va_K.moved hW.alike hK, hD⟩, hS.F ht9⟩) hS.2.2 dX3_text_20
  · have hj_p0 := row_lt (p := p0) c1
    refine lv_aload_n hx hb dX3_text_7 rfl (lv_at hl 0 rfl) ?_
    refine lv_iload_n hx hb dX3_text_8 rfl (lv_at hl 1 rfl) ?_
    refine gVi (As := [.int p0]) (rest := []) ⟨hx, hb, hml, hown, hts⟩ (c_X3_end l dC dI A u p0 hj_p0 (row_in (p := p0) c1)) (cwV 1 hts (gi_V hbc tw_305 tw_307 ts_5 tw_4 tw_308) rfl rfl rfl (by decide +kernel) ⟨Nat.le_of_ble_eq_true rfl, Nat.le_of_ble_eq_true rfl⟩) (va_recv hK hP (ci := 3) (q0 := 0) rfl rfl) aR_mono aR_D hP hK hD hS rfl hl.1 rfl (Nat.le_of_ble_eq_true rfl) dX3_text_9 ⟨Nat.le_of_ble_eq_true rfl, Nat.le_of_ble_eq_true rfl⟩ (fun r2 v4 H locs hq3 hP hD hS => ?_)
    obtain ⟨hq3, rfl⟩ := hq3
    refine lv_sipush (v := 128) hx hb dX3_text_12 (by decide) ?_
    refine lv_icmp_le (tgt := 21) hx hb dX3_text_15 (by decide) (fun c5 => ?_) (fun c5 => ?_)
    · have hend := pe_128 hq3 c5
      refine lv_aload_n hx hb dX3_text_21 rfl (lv_at hl 0 rfl) ?_
      refine lv_iconst (v := 0) hx hb dX3_text_22 (by decide) ?_
      refine va_put (D := (dC, dI)) (ci := 3) (v := .int 0) (ty := .int) (C := RX3) (T := TX3) (N := 4) hx hb hw igX3 tyX3 tyX3_ok nmX3 hown hK hP hD hS 0 rfl rfl 3 (by decide) (hw _ tw_245) (fun _ h9 => h9) rfl (by decide +kernel) rfl rfl (Nat.le_of_ble_eq_true rfl) dX3_text_23 (fun H locs hP hD hS => ?_)
      have hP : va_P (dC, dI) bwCl (wR A (u.1, u.2.1, u.2.2.1, 0)) H := hP
      have hD : va_D (aR A s.heap.size) (wR A (u.1, u.2.1, u.2.2.1, 0)) := hD
      refine lv_aload_n hx hb dX3_text_26 rfl (lv_at hl 0 rfl) ?_
      refine lv_bipush (v := 123) hx hb dX3_text_27 (by decide) ?_
      refine gVv (As := [.int 123]) (rest := []) ⟨hx, hb, hml, hown, hts⟩ (c_X3_write l dC dI A (u.1, u.2.1, u.2.2.1, 0) (tr_nil _ _ _) (by decide) 123) (cwV 1 hts (gi_V hbc tw_335 tw_337 ts_6 tw_4 tw_338) rfl rfl rfl (by decide +kernel) ⟨Nat.le_of_ble_eq_true rfl, Nat.le_of_ble_eq_true rfl⟩) (va_recv hK hP (ci := 3) (q0 := 0) rfl rfl) aR_mono aR_D hP hK hD hS rfl hl.1 rfl (Nat.le_of_ble_eq_true rfl) dX3_text_29 ⟨Nat.le_of_ble_eq_true rfl, Nat.le_of_ble_eq_true rfl⟩ (fun v8 H locs hq7 hP hD hS => ?_)
      obtain ⟨h9, ht10⟩ := hq7
      have h9 := tr2 h9 ⟨rfl, rfl⟩
      refine lv_iconst (v := 0) hx hb dX3_text_32 (by decide) ?_
      refine lv_istore_n (lv' := [(2, .int 0), (0, .ref (mh_ A)), (1, .int p0)]) hx hb dX3_text_33 rfl hl (by decide) rfl (fun ls hl => ?_)
      refine w_loop (N := 4032) (i0 := 0) (fun i H locs ls => ∃ v : StR, va_P (dC, dI) bwCl (wR A v) H ∧ va_D (aR A s.heap.size) (wR A v) ∧ va_S (aR A s.heap.size) s.heap H locs ∧ lv_has ls 4 [(0, .ref (mh_ A)), (1, .int p0), (2, .int (nI i))] ∧ (v.1 = u.1 ∧ v.2.1 = u.2.1) ∧ txR v (wtL (u.1 p0.toNatClampNeg) i)) (by decide) ⟨v8, hP, hD, hS, lv_sub hl [1, 2, 0] rfl, h9, tx_0 ht10⟩ ?_
      intro i H locs ls hz_i hi_i hI ih_i
      obtain ⟨v, hP, hD, hS, hl, hF_i⟩ := hI
      obtain ⟨hF1, hF2⟩ := hF_i
      refine lv_iload_n hx hb dX3_text_34 rfl (lv_at hl 2 rfl) ?_
      refine lv_sipush (v := 4032) hx hb dX3_text_35 (by decide) ?_
      refine lv_icmp_ge (tgt := 130) hx hb dX3_text_38 (by decide) (fun c11 => ?_) (fun c11 => ?_)
      · obtain rfl : i = 4032 := lp_out (n := 4032) rfl hi_i (by decide) c11
        refine lv_aload_n hx hb dX3_text_130 rfl (lv_at hl 0 rfl) ?_
        refine lv_bipush (v := 125) hx hb dX3_text_131 (by decide) ?_
        refine gVv (As := [.int 125]) (rest := []) ⟨hx, hb, hml, hown, hts⟩ (c_X3_write l dC dI A v hF2 (wt_rm 0 hend (Nat.le_refl _) rfl (by decide)) 125) (cwV 1 hts (gi_V hbc tw_335 tw_337 ts_6 tw_4 tw_338) rfl rfl rfl (by decide +kernel) ⟨Nat.le_of_ble_eq_true rfl, Nat.le_of_ble_eq_true rfl⟩) (va_recv hK hP (ci := 3) (q0 := 0) rfl rfl) aR_mono aR_D hP hK hD hS rfl hl.1 rfl (Nat.le_of_ble_eq_true rfl) dX3_text_133 ⟨Nat.le_of_ble_eq_true rfl, Nat.le_of_ble_eq_true rfl⟩ (fun v14 H locs hq13 hP hD hS => ?_)
        obtain ⟨h15, ht16⟩ := hq13
        have h15 := tr2 h15 hF1
        refine lv_aload_n hx hb dX3_text_136 rfl (lv_at hl 0 rfl) ?_
        refine va_get (D := (dC, dI)) (ci := 3) (v := .int v14.2.2.2) (C := RX3) (T := TX3) (N := 4) hx hb hw igX3 hown hK hP 0 rfl rfl 3 (by decide) (hw _ tw_245) (fun _ h9 => h9) rfl dX3_text_137 ?_
        exact W.iret hx hb hr (fun t9 ht9 hW => ⟨⟨_, v14, rfl, Or.inl ⟨c1, ⟨_, hq3, Or.inl ⟨c5, h15, by rw [wtT_e hend]; exact ht16, rfl⟩⟩⟩, by rw [ht9]; exact hP, va_K.moved hW.alike hK, hD⟩, hS.F ht9⟩) hS.2.2 dX3_text_140
      · have hlt_i : i < 4032 := lp_in (n := 4032) rfl hi_i c11
        refine lv_aload_n hx hb dX3_text_41 rfl (lv_at hl 0 rfl) ?_
        refine va_get (D := (dC, dI)) (ci := 3) (v := .ref (mq_ A)) (C := RX3) (T := TX3) (N := 4) hx hb hw igX3 hown hK hP 0 rfl rfl 0 (by decide) (hw _ tw_242) (fun _ h9 => h9) rfl dX3_text_42 ?_
        refine lv_iload_n hx hb dX3_text_45 rfl (lv_at hl 1 rfl) ?_
        refine va_aldz hx hb hK hP 1 0 rfl rfl (row_in (p := p0) c1) dX3_text_46 ?_
        rw [mqF_at A hj_p0]
        refine lv_iload_n hx hb dX3_text_47 rfl (lv_at hl 2 rfl) ?_
        refine va_zald hx hb hK hP (4 + p0.toNatClampNeg) (3 + p0.toNatClampNeg) (wR_row A v hj_p0) (tyR_row A hj_p0) (vp_in_nI (by omega) (by omega)) dX3_text_48 ?_
        rw [nI_clamp (n := i) (by omega)]
        refine lv_topi (fun z17 ez17 => ?_)
        obtain rfl : z17 = bz (u.1 p0.toNatClampNeg) i := ez17.trans (bz_v hF1.1)
        refine lv_if_ne (tgt := 55) hx hb dX3_text_49 (by decide) (fun c18 => ?_) (fun c18 => ?_)
        · have c18 := b1t (b := _) c18
          have hi128 := tx_128 hend hlt_i c18
          refine lv_aload_n hx hb dX3_text_55 rfl (lv_at hl 0 rfl) ?_
          refine va_get (D := (dC, dI)) (ci := 3) (v := .int v.2.2.2) (C := RX3) (T := TX3) (N := 4) hx hb hw igX3 hown hK hP 0 rfl rfl 3 (by decide) (hw _ tw_245) (fun _ h9 => h9) rfl dX3_text_56 ?_
          refine lv_iconst (v := 1) hx hb dX3_text_59 (by decide) ?_
          refine lv_icmp_le (tgt := 75) hx hb dX3_text_60 (by decide) (fun c19 => ?_) (fun c19 => ?_)
          · rw [hF2.1] at c19
            refine lv_iload_n hx hb dX3_text_75 rfl (lv_at hl 2 rfl) ?_
            refine lv_bipush (v := 99) hx hb dX3_text_76 (by decide) ?_
            refine lv_icmp_le (tgt := 86) hx hb dX3_text_78 (by decide) (fun c20 => ?_) (fun c20 => ?_)
            · refine lv_iload_n hx hb dX3_text_86 rfl (lv_at hl 2 rfl) ?_
              refine lv_bipush (v := 9) hx hb dX3_text_87 (by decide) ?_
              refine lv_icmp_le (tgt := 97) hx hb dX3_text_89 (by decide) (fun c21 => ?_) (fun c21 => ?_)
              · refine lv_iconst (v := 1) hx hb dX3_text_97 (by decide) ?_
                refine lv_istore_n (lv' := [(3, .int 1), (0, .ref (mh_ A)), (1, .int p0), (2, .int (nI i))]) hx hb dX3_text_98 rfl hl (by decide) rfl (fun ls hl => ?_)
                refine lv_iload_n hx hb dX3_text_99 rfl (lv_at hl 0 rfl) ?_
                refine lv_if_le (tgt := 124) hx hb dX3_text_100 (by decide) (fun c22 => ?_) (fun c22 => ?_)
                · exact absurd c22 (by decide)
                · refine lv_aload_n hx hb dX3_text_103 rfl (lv_at hl 1 rfl) ?_
                  refine lv_bipush (v := 48) hx hb dX3_text_104 (by decide) ?_
                  refine lv_iload_n hx hb dX3_text_106 rfl (lv_at hl 3 rfl) ?_
                  refine lv_iload_n hx hb dX3_text_107 rfl (lv_at hl 0 rfl) ?_
                  refine lv_idiv hx hb dX3_text_108 (by decide) ?_
                  refine lv_bipush (v := 10) hx hb dX3_text_109 (by decide) ?_
                  refine lv_irem hx hb dX3_text_111 (by decide) ?_
                  refine lv_iadd hx hb dX3_text_112 ?_
                  refine lv_topi (fun z23 ez23 => ?_)
                  obtain rfl : z23 = nI (48 + i / 1 % 10) := ez23.trans (dg_1 hi128)
                  refine gVv (As := [.int (nI (48 + i / 1 % 10))]) (rest := []) ⟨hx, hb, hml, hown, hts⟩ (c_X3_write l dC dI A v hF2 (wt_rm 0 hend hi_i rfl (by decide)) (nI (48 + i / 1 % 10))) (cwV 1 hts (gi_V hbc tw_335 tw_337 ts_6 tw_4 tw_338) rfl rfl rfl (by decide +kernel) ⟨Nat.le_of_ble_eq_true rfl, Nat.le_of_ble_eq_true rfl⟩) (va_recv hK hP (ci := 3) (q0 := 0) rfl rfl) aR_mono aR_D hP hK hD hS rfl hl.1 rfl (Nat.le_of_ble_eq_true rfl) dX3_text_113 ⟨Nat.le_of_ble_eq_true rfl, Nat.le_of_ble_eq_true rfl⟩ (fun v26 H locs hq25 hP hD hS => ?_)
                  obtain ⟨h27, ht28⟩ := hq25
                  have h27 := tr2 h27 hF1
                  refine lv_iload_n hx hb dX3_text_116 rfl (lv_at hl 0 rfl) ?_
                  refine lv_bipush (v := 10) hx hb dX3_text_117 (by decide) ?_
                  refine lv_idiv hx hb dX3_text_119 (by decide) ?_
                  refine lv_topi (fun z29 ez29 => ?_)
                  obtain rfl : z29 = 0 := ez29.trans (by decide)
                  refine lv_istore_n (lv' := [(3, .int 0), (0, .ref (mh_ A)), (1, .int p0), (2, .int (nI i))]) hx hb dX3_text_120 rfl hl (by decide) rfl (fun ls hl => ?_)
                  refine lv_goto (tgt := 99) hx hb dX3_text_121 (by decide) ?_
                  refine lv_iload_n hx hb dX3_text_99 rfl (lv_at hl 0 rfl) ?_
                  refine lv_if_le (tgt := 124) hx hb dX3_text_100 (by decide) (fun c30 => ?_) (fun c30 => ?_)
                  · refine lv_iinc (v := nI (i + 1)) (lv' := [(2, .int (nI (i + 1))), (3, .int 0), (0, .ref (mh_ A)), (1, .int p0)]) hx hb dX3_text_124 hl (k := 3) rfl (nI_1 _) (by decide) rfl (fun ls hl => ?_)
                    refine lv_goto (tgt := 34) hx hb dX3_text_127 (by decide) ?_
                    exact ih_i _ _ _ (by omega) ⟨v26, hP, hD, hS, lv_sub hl [2, 3, 0] rfl, h27, by rw [wt_s c18, p2_le hend hi_i c19, dl_1 hi128 c20 c21]; exact ht28⟩
                  · exact absurd (by decide) c30
              · refine lv_bipush (v := 10) hx hb dX3_text_92 (by decide) ?_
                refine lv_goto (tgt := 98) hx hb dX3_text_94 (by decide) ?_
                refine lv_istore_n (lv' := [(3, .int 10), (0, .ref (mh_ A)), (1, .int p0), (2, .int (nI i))]) hx hb dX3_text_98 rfl hl (by decide) rfl (fun ls hl => ?_)
                refine lv_iload_n hx hb dX3_text_99 rfl (lv_at hl 0 rfl) ?_
                refine lv_if_le (tgt := 124) hx hb dX3_text_100 (by decide) (fun c31 => ?_) (fun c31 => ?_)
                · exact absurd c31 (by decide)
                · refine lv_aload_n hx hb dX3_text_103 rfl (lv_at hl 1 rfl) ?_
                  refine lv_bipush (v := 48) hx hb dX3_text_104 (by decide) ?_
                  refine lv_iload_n hx hb dX3_text_106 rfl (lv_at hl 3 rfl) ?_
                  refine lv_iload_n hx hb dX3_text_107 rfl (lv_at hl 0 rfl) ?_
                  refine lv_idiv hx hb dX3_text_108 (by decide) ?_
                  refine lv_bipush (v := 10) hx hb dX3_text_109 (by decide) ?_
                  refine lv_irem hx hb dX3_text_111 (by decide) ?_
                  refine lv_iadd hx hb dX3_text_112 ?_
                  refine lv_topi (fun z32 ez32 => ?_)
                  obtain rfl : z32 = nI (48 + i / 10 % 10) := ez32.trans (dg_10 hi128)
                  refine gVv (As := [.int (nI (48 + i / 10 % 10))]) (rest := []) ⟨hx, hb, hml, hown, hts⟩ (c_X3_write l dC dI A v hF2 (wt_rm 0 hend hi_i rfl (by decide)) (nI (48 + i / 10 % 10))) (cwV 1 hts (gi_V hbc tw_335 tw_337 ts_6 tw_4 tw_338) rfl rfl rfl (by decide +kernel) ⟨Nat.le_of_ble_eq_true rfl, Nat.le_of_ble_eq_true rfl⟩) (va_recv hK hP (ci := 3) (q0 := 0) rfl rfl) aR_mono aR_D hP hK hD hS rfl hl.1 rfl (Nat.le_of_ble_eq_true rfl) dX3_text_113 ⟨Nat.le_of_ble_eq_true rfl, Nat.le_of_ble_eq_true rfl⟩ (fun v35 H locs hq34 hP hD hS => ?_)
                  obtain ⟨h36, ht37⟩ := hq34
                  have h36 := tr2 h36 hF1
                  refine lv_iload_n hx hb dX3_text_116 rfl (lv_at hl 0 rfl) ?_
                  refine lv_bipush (v := 10) hx hb dX3_text_117 (by decide) ?_
                  refine lv_idiv hx hb dX3_text_119 (by decide) ?_
                  refine lv_topi (fun z38 ez38 => ?_)
                  obtain rfl : z38 = 1 := ez38.trans (by decide)
                  refine lv_istore_n (lv' := [(3, .int 1), (0, .ref (mh_ A)), (1, .int p0), (2, .int (nI i))]) hx hb dX3_text_120 rfl hl (by decide) rfl (fun ls hl => ?_)
                  refine lv_goto (tgt := 99) hx hb dX3_text_121 (by decide) ?_
                  refine lv_iload_n hx hb dX3_text_99 rfl (lv_at hl 0 rfl) ?_
                  refine lv_if_le (tgt := 124) hx hb dX3_text_100 (by decide) (fun c39 => ?_) (fun c39 => ?_)
                  · exact absurd c39 (by decide)
                  · refine lv_aload_n hx hb dX3_text_103 rfl (lv_at hl 1 rfl) ?_
                    refine lv_bipush (v := 48) hx hb dX3_text_104 (by decide) ?_
                    refine lv_iload_n hx hb dX3_text_106 rfl (lv_at hl 3 rfl) ?_
                    refine lv_iload_n hx hb dX3_text_107 rfl (lv_at hl 0 rfl) ?_
                    refine lv_idiv hx hb dX3_text_108 (by decide) ?_
                    refine lv_bipush (v := 10) hx hb dX3_text_109 (by decide) ?_
                    refine lv_irem hx hb dX3_text_111 (by decide) ?_
                    refine lv_iadd hx hb dX3_text_112 ?_
                    refine lv_topi (fun z40 ez40 => ?_)
                    obtain rfl : z40 = nI (48 + i / 1 % 10) := ez40.trans (dg_1 hi128)
                    refine gVv (As := [.int (nI (48 + i / 1 % 10))]) (rest := []) ⟨hx, hb, hml, hown, hts⟩ (c_X3_write l dC dI A v35 ht37 (wt_rm 1 hend hi_i (by simp) (by decide)) (nI (48 + i / 1 % 10))) (cwV 1 hts (gi_V hbc tw_335 tw_337 ts_6 tw_4 tw_338) rfl rfl rfl (by decide +kernel) ⟨Nat.le_of_ble_eq_true rfl, Nat.le_of_ble_eq_true rfl⟩) (va_recv hK hP (ci := 3) (q0 := 0) rfl rfl) aR_mono aR_D hP hK hD hS rfl hl.1 rfl (Nat.le_of_ble_eq_true rfl) dX3_text_113 ⟨Nat.le_of_ble_eq_true rfl, Nat.le_of_ble_eq_true rfl⟩ (fun v43 H locs hq42 hP hD hS => ?_)
                    obtain ⟨h44, ht45⟩ := hq42
                    have h44 := tr2 h44 h36
                    refine lv_iload_n hx hb dX3_text_116 rfl (lv_at hl 0 rfl) ?_
                    refine lv_bipush (v := 10) hx hb dX3_text_117 (by decide) ?_
                    refine lv_idiv hx hb dX3_text_119 (by decide) ?_
                    refine lv_topi (fun z46 ez46 => ?_)
                    obtain rfl : z46 = 0 := ez46.trans (by decide)
                    refine lv_istore_n (lv' := [(3, .int 0), (0, .ref (mh_ A)), (1, .int p0), (2, .int (nI i))]) hx hb dX3_text_120 rfl hl (by decide) rfl (fun ls hl => ?_)
                    refine lv_goto (tgt := 99) hx hb dX3_text_121 (by decide) ?_
                    refine lv_iload_n hx hb dX3_text_99 rfl (lv_at hl 0 rfl) ?_
                    refine lv_if_le (tgt := 124) hx hb dX3_text_100 (by decide) (fun c47 => ?_) (fun c47 => ?_)
                    · refine lv_iinc (v := nI (i + 1)) (lv' := [(2, .int (nI (i + 1))), (3, .int 0), (0, .ref (mh_ A)), (1, .int p0)]) hx hb dX3_text_124 hl (k := 3) rfl (nI_1 _) (by decide) rfl (fun ls hl => ?_)
                      refine lv_goto (tgt := 34) hx hb dX3_text_127 (by decide) ?_
                      exact ih_i _ _ _ (by omega) ⟨v43, hP, hD, hS, lv_sub hl [2, 3, 0] rfl, h44, by rw [wt_s c18, p2_le hend hi_i c19, dl_2 hi128 c20 c21]; exact ht45⟩
                    · exact absurd (by decide) c47
            · refine lv_bipush (v := 100) hx hb dX3_text_81 (by decide) ?_
              refine lv_goto (tgt := 98) hx hb dX3_text_83 (by decide) ?_
              refine lv_istore_n (lv' := [(3, .int 100), (0, .ref (mh_ A)), (1, .int p0), (2, .int (nI i))]) hx hb dX3_text_98 rfl hl (by decide) rfl (fun ls hl => ?_)
              refine lv_iload_n hx hb dX3_text_99 rfl (lv_at hl 0 rfl) ?_
              refine lv_if_le (tgt := 124) hx hb dX3_text_100 (by decide) (fun c48 => ?_) (fun c48 => ?_)
              · exact absurd c48 (by decide)
              · refine lv_aload_n hx hb dX3_text_103 rfl (lv_at hl 1 rfl) ?_
                refine lv_bipush (v := 48) hx hb dX3_text_104 (by decide) ?_
                refine lv_iload_n hx hb dX3_text_106 rfl (lv_at hl 3 rfl) ?_
                refine lv_iload_n hx hb dX3_text_107 rfl (lv_at hl 0 rfl) ?_
                refine lv_idiv hx hb dX3_text_108 (by decide) ?_
                refine lv_bipush (v := 10) hx hb dX3_text_109 (by decide) ?_
                refine lv_irem hx hb dX3_text_111 (by decide) ?_
                refine lv_iadd hx hb dX3_text_112 ?_
                refine lv_topi (fun z49 ez49 => ?_)
                obtain rfl : z49 = nI (48 + i / 100 % 10) := ez49.trans (dg_100 hi128)
                refine gVv (As := [.int (nI (48 + i / 100 % 10))]) (rest := []) ⟨hx, hb, hml, hown, hts⟩ (c_X3_write l dC dI A v hF2 (wt_rm 0 hend hi_i rfl (by decide)) (nI (48 + i / 100 % 10))) (cwV 1 hts (gi_V hbc tw_335 tw_337 ts_6 tw_4 tw_338) rfl rfl rfl (by decide +kernel) ⟨Nat.le_of_ble_eq_true rfl, Nat.le_of_ble_eq_true rfl⟩) (va_recv hK hP (ci := 3) (q0 := 0) rfl rfl) aR_mono aR_D hP hK hD hS rfl hl.1 rfl (Nat.le_of_ble_eq_true rfl) dX3_text_113 ⟨Nat.le_of_ble_eq_true rfl, Nat.le_of_ble_eq_true rfl⟩ (fun v52 H locs hq51 hP hD hS => ?_)
                obtain ⟨h53, ht54⟩ := hq51
                have h53 := tr2 h53 hF1
                refine lv_iload_n hx hb dX3_text_116 rfl (lv_at hl 0 rfl) ?_
                refine lv_bipush (v := 10) hx hb dX3_text_117 (by decide) ?_
                refine lv_idiv hx hb dX3_text_119 (by decide) ?_
                refine lv_topi (fun z55 ez55 => ?_)
                obtain rfl : z55 = 10 := ez55.trans (by decide)
                refine lv_istore_n (lv' := [(3, .int 10), (0, .ref (mh_ A)), (1, .int p0), (2, .int (nI i))]) hx hb dX3_text_120 rfl hl (by decide) rfl (fun ls hl => ?_)
                refine lv_goto (tgt := 99) hx hb dX3_text_121 (by decide) ?_
                refine lv_iload_n hx hb dX3_text_99 rfl (lv_at hl 0 rfl) ?_
                refine lv_if_le (tgt := 124) hx hb dX3_text_100 (by decide) (fun c56 => ?_) (fun c56 => ?_)
                · exact absurd c56 (by decide)
                · refine lv_aload_n hx hb dX3_text_103 rfl (lv_at hl 1 rfl) ?_
                  refine lv_bipush (v := 48) hx hb dX3_text_104 (by decide) ?_
                  refine lv_iload_n hx hb dX3_text_106 rfl (lv_at hl 3 rfl) ?_
                  refine lv_iload_n hx hb dX3_text_107 rfl (lv_at hl 0 rfl) ?_
                  refine lv_idiv hx hb dX3_text_108 (by decide) ?_
                  refine lv_bipush (v := 10) hx hb dX3_text_109 (by decide) ?_
                  refine lv_irem hx hb dX3_text_111 (by decide) ?_
                  refine lv_iadd hx hb dX3_text_112 ?_
                  refine lv_topi (fun z57 ez57 => ?_)
                  obtain rfl : z57 = nI (48 + i / 10 % 10) := ez57.trans (dg_10 hi128)
                  refine gVv (As := [.int (nI (48 + i / 10 % 10))]) (rest := []) ⟨hx, hb, hml, hown, hts⟩ (c_X3_write l dC dI A v52 ht54 (wt_rm 1 hend hi_i (by simp) (by decide)) (nI (48 + i / 10 % 10))) (cwV 1 hts (gi_V hbc tw_335 tw_337 ts_6 tw_4 tw_338) rfl rfl rfl (by decide +kernel) ⟨Nat.le_of_ble_eq_true rfl, Nat.le_of_ble_eq_true rfl⟩) (va_recv hK hP (ci := 3) (q0 := 0) rfl rfl) aR_mono aR_D hP hK hD hS rfl hl.1 rfl (Nat.le_of_ble_eq_true rfl) dX3_text_113 ⟨Nat.le_of_ble_eq_true rfl, Nat.le_of_ble_eq_true rfl⟩ (fun v60 H locs hq59 hP hD hS => ?_)
                  obtain ⟨h61, ht62⟩ := hq59
                  have h61 := tr2 h61 h53
                  refine lv_iload_n hx hb dX3_text_116 rfl (lv_at hl 0 rfl) ?_
                  refine lv_bipush (v := 10) hx hb dX3_text_117 (by decide) ?_
                  refine lv_idiv hx hb dX3_text_119 (by decide) ?_
                  refine lv_topi (fun z63 ez63 => ?_)
                  obtain rfl : z63 = 1 := ez63.trans (by decide)
                  refine lv_istore_n (lv' := [(3, .int 1), (0, .ref (mh_ A)), (1, .int p0), (2, .int (nI i))]) hx hb dX3_text_120 rfl hl (by decide) rfl (fun ls hl => ?_)
                  refine lv_goto (tgt := 99) hx hb dX3_text_121 (by decide) ?_
                  refine lv_iload_n hx hb dX3_text_99 rfl (lv_at hl 0 rfl) ?_
                  refine lv_if_le (tgt := 124) hx hb dX3_text_100 (by decide) (fun c64 => ?_) (fun c64 => ?_)
                  · exact absurd c64 (by decide)
                  · refine lv_aload_n hx hb dX3_text_103 rfl (lv_at hl 1 rfl) ?_
                    refine lv_bipush (v := 48) hx hb dX3_text_104 (by decide) ?_
                    refine lv_iload_n hx hb dX3_text_106 rfl (lv_at hl 3 rfl) ?_
                    refine lv_iload_n hx hb dX3_text_107 rfl (lv_at hl 0 rfl) ?_
                    refine lv_idiv hx hb dX3_text_108 (by decide) ?_
                    refine lv_bipush (v := 10) hx hb dX3_text_109 (by decide) ?_
                    refine lv_irem hx hb dX3_text_111 (by decide) ?_
                    refine lv_iadd hx hb dX3_text_112 ?_
                    refine lv_topi (fun z65 ez65 => ?_)
                    obtain rfl : z65 = nI (48 + i / 1 % 10) := ez65.trans (dg_1 hi128)
                    refine gVv (As := [.int (nI (48 + i / 1 % 10))]) (rest := []) ⟨hx, hb, hml, hown, hts⟩ (c_X3_write l dC dI A v60 ht62 (wt_rm 2 hend hi_i (by simp) (by decide)) (nI (48 + i / 1 % 10))) (cwV 1 hts (gi_V hbc tw_335 tw_337 ts_6 tw_4 tw_338) rfl rfl rfl (by decide +kernel) ⟨Nat.le_of_ble_eq_true rfl, Nat.le_of_ble_eq_true rfl⟩) (va_recv hK hP (ci := 3) (q0 := 0) rfl rfl) aR_mono aR_D hP hK hD hS rfl hl.1 rfl (Nat.le_of_ble_eq_true rfl) dX3_text_113 ⟨Nat.le_of_ble_eq_true rfl, Nat.le_of_ble_eq_true rfl⟩ (fun v68 H locs hq67 hP hD hS => ?_)
                    obtain ⟨h69, ht70⟩ := hq67
                    have h69 := tr2 h69 h61
                    refine lv_iload_n hx hb dX3_text_116 rfl (lv_at hl 0 rfl) ?_
                    refine lv_bipush (v := 10) hx hb dX3_text_117 (by decide) ?_
                    refine lv_idiv hx hb dX3_text_119 (by decide) ?_
                    refine lv_topi (fun z71 ez71 => ?_)
                    obtain rfl : z71 = 0 := ez71.trans (by decide)
                    refine lv_istore_n (lv' := [(3, .int 0), (0, .ref (mh_ A)), (1, .int p0), (2, .int (nI i))]) hx hb dX3_text_120 rfl hl (by decide) rfl (fun ls hl => ?_)
                    refine lv_goto (tgt := 99) hx hb dX3_text_121 (by decide) ?_
                    refine lv_iload_n hx hb dX3_text_99 rfl (lv_at hl 0 rfl) ?_
                    refine lv_if_le (tgt := 124) hx hb dX3_text_100 (by decide) (fun c72 => ?_) (fun c72 => ?_)
                    · refine lv_iinc (v := nI (i + 1)) (lv' := [(2, .int (nI (i + 1))), (3, .int 0), (0, .ref (mh_ A)), (1, .int p0)]) hx hb dX3_text_124 hl (k := 3) rfl (nI_1 _) (by decide) rfl (fun ls hl => ?_)
                      refine lv_goto (tgt := 34) hx hb dX3_text_127 (by decide) ?_
                      exact ih_i _ _ _ (by omega) ⟨v68, hP, hD, hS, lv_sub hl [2, 3, 0] rfl, h69, by rw [wt_s c18, p2_le hend hi_i c19, dl_3 hi128 c20]; exact ht70⟩
                    · exact absurd (by decide) c72
          · rw [hF2.1] at c19
            refine lv_aload_n hx hb dX3_text_63 rfl (lv_at hl 0 rfl) ?_
            refine lv_bipush (v := 44) hx hb dX3_text_64 (by decide) ?_
            refine gVv (As := [.int 44]) (rest := []) ⟨hx, hb, hml, hown, hts⟩ (c_X3_write l dC dI A v hF2 (wt_rm 0 hend hi_i rfl (by decide)) 44) (cwV 1 hts (gi_V hbc tw_335 tw_337 ts_6 tw_4 tw_338) rfl rfl rfl (by decide +kernel) ⟨Nat.le_of_ble_eq_true rfl, Nat.le_of_ble_eq_true rfl⟩) (va_recv hK hP (ci := 3) (q0 := 0) rfl rfl) aR_mono aR_D hP hK hD hS rfl hl.1 rfl (Nat.le_of_ble_eq_true rfl) dX3_text_66 ⟨Nat.le_of_ble_eq_true rfl, Nat.le_of_ble_eq_true rfl⟩ (fun v75 H locs hq74 hP hD hS => ?_)
            obtain ⟨h76, ht77⟩ := hq74
            have h76 := tr2 h76 hF1
            refine lv_aload_n hx hb dX3_text_69 rfl (lv_at hl 0 rfl) ?_
            refine lv_bipush (v := 32) hx hb dX3_text_70 (by decide) ?_
            refine gVv (As := [.int 32]) (rest := []) ⟨hx, hb, hml, hown, hts⟩ (c_X3_write l dC dI A v75 ht77 (wt_rm 1 hend hi_i (by simp) (by decide)) 32) (cwV 1 hts (gi_V hbc tw_335 tw_337 ts_6 tw_4 tw_338) rfl rfl rfl (by decide +kernel) ⟨Nat.le_of_ble_eq_true rfl, Nat.le_of_ble_eq_true rfl⟩) (va_recv hK hP (ci := 3) (q0 := 0) rfl rfl) aR_mono aR_D hP hK hD hS rfl hl.1 rfl (Nat.le_of_ble_eq_true rfl) dX3_text_72 ⟨Nat.le_of_ble_eq_true rfl, Nat.le_of_ble_eq_true rfl⟩ (fun v80 H locs hq79 hP hD hS => ?_)
            obtain ⟨h81, ht82⟩ := hq79
            have h81 := tr2 h81 h76
            refine lv_iload_n hx hb dX3_text_75 rfl (lv_at hl 2 rfl) ?_
            refine lv_bipush (v := 99) hx hb dX3_text_76 (by decide) ?_
            refine lv_icmp_le (tgt := 86) hx hb dX3_text_78 (by decide) (fun c83 => ?_) (fun c83 => ?_)
            · refine lv_iload_n hx hb dX3_text_86 rfl (lv_at hl 2 rfl) ?_
              refine lv_bipush (v := 9) hx hb dX3_text_87 (by decide) ?_
              refine lv_icmp_le (tgt := 97) hx hb dX3_text_89 (by decide) (fun c84 => ?_) (fun c84 => ?_)
              · refine lv_iconst (v := 1) hx hb dX3_text_97 (by decide) ?_
                refine lv_istore_n (lv' := [(3, .int 1), (0, .ref (mh_ A)), (1, .int p0), (2, .int (nI i))]) hx hb dX3_text_98 rfl hl (by decide) rfl (fun ls hl => ?_)
                refine lv_iload_n hx hb dX3_text_99 rfl (lv_at hl 0 rfl) ?_
                refine lv_if_le (tgt := 124) hx hb dX3_text_100 (by decide) (fun c85 => ?_) (fun c85 => ?_)
                · exact absurd c85 (by decide)
                · refine lv_aload_n hx hb dX3_text_103 rfl (lv_at hl 1 rfl) ?_
                  refine lv_bipush (v := 48) hx hb dX3_text_104 (by decide) ?_
                  refine lv_iload_n hx hb dX3_text_106 rfl (lv_at hl 3 rfl) ?_
                  refine lv_iload_n hx hb dX3_text_107 rfl (lv_at hl 0 rfl) ?_
                  refine lv_idiv hx hb dX3_text_108 (by decide) ?_
                  refine lv_bipush (v := 10) hx hb dX3_text_109 (by decide) ?_
                  refine lv_irem hx hb dX3_text_111 (by decide) ?_
                  refine lv_iadd hx hb dX3_text_112 ?_
                  refine lv_topi (fun z86 ez86 => ?_)
                  obtain rfl : z86 = nI (48 + i / 1 % 10) := ez86.trans (dg_1 hi128)
                  refine gVv (As := [.int (nI (48 + i / 1 % 10))]) (rest := []) ⟨hx, hb, hml, hown, hts⟩ (c_X3_write l dC dI A v80 ht82 (wt_rm 2 hend hi_i (by simp) (by decide)) (nI (48 + i / 1 % 10))) (cwV 1 hts (gi_V hbc tw_335 tw_337 ts_6 tw_4 tw_338) rfl rfl rfl (by decide +kernel) ⟨Nat.le_of_ble_eq_true rfl, Nat.le_of_ble_eq_true rfl⟩) (va_recv hK hP (ci := 3) (q0 := 0) rfl rfl) aR_mono aR_D hP hK hD hS rfl hl.1 rfl (Nat.le_of_ble_eq_true rfl) dX3_text_113 ⟨Nat.le_of_ble_eq_true rfl, Nat.le_of_ble_eq_true rfl⟩ (fun v89 H locs hq88 hP hD hS => ?_)
                  obtain ⟨h90, ht91⟩ := hq88
                  have h90 := tr2 h90 h81
                  refine lv_iload_n hx hb dX3_text_116 rfl (lv_at hl 0 rfl) ?_
                  refine lv_bipush (v := 10) hx hb dX3_text_117 (by decide) ?_
                  refine lv_idiv hx hb dX3_text_119 (by decide) ?_
                  refine lv_topi (fun z92 ez92 => ?_)
                  obtain rfl : z92 = 0 := ez92.trans (by decide)
                  refine lv_istore_n (lv' := [(3, .int 0), (0, .ref (mh_ A)), (1, .int p0), (2, .int (nI i))]) hx hb dX3_text_120 rfl hl (by decide) rfl (fun ls hl => ?_)
                  refine lv_goto (tgt := 99) hx hb dX3_text_121 (by decide) ?_
                  refine lv_iload_n hx hb dX3_text_99 rfl (lv_at hl 0 rfl) ?_
                  refine lv_if_le (tgt := 124) hx hb dX3_text_100 (by decide) (fun c93 => ?_) (fun c93 => ?_)
                  · refine lv_iinc (v := nI (i + 1)) (lv' := [(2, .int (nI (i + 1))), (3, .int 0), (0, .ref (mh_ A)), (1, .int p0)]) hx hb dX3_text_124 hl (k := 3) rfl (nI_1 _) (by decide) rfl (fun ls hl => ?_)
                    refine lv_goto (tgt := 34) hx hb dX3_text_127 (by decide) ?_
                    exact ih_i _ _ _ (by omega) ⟨v89, hP, hD, hS, lv_sub hl [2, 3, 0] rfl, h90, by rw [wt_s c18, p2_gt c19, dl_1 hi128 c83 c84]; exact ht91⟩
                  · exact absurd (by decide) c93
              · refine lv_bipush (v := 10) hx hb dX3_text_92 (by decide) ?_
                refine lv_goto (tgt := 98) hx hb dX3_text_94 (by decide) ?_
                refine lv_istore_n (lv' := [(3, .int 10), (0, .ref (mh_ A)), (1, .int p0), (2, .int (nI i))]) hx hb dX3_text_98 rfl hl (by decide) rfl (fun ls hl => ?_)
                refine lv_iload_n hx hb dX3_text_99 rfl (lv_at hl 0 rfl) ?_
                refine lv_if_le (tgt := 124) hx hb dX3_text_100 (by decide) (fun c94 => ?_) (fun c94 => ?_)
                · exact absurd c94 (by decide)
                · refine lv_aload_n hx hb dX3_text_103 rfl (lv_at hl 1 rfl) ?_
                  refine lv_bipush (v := 48) hx hb dX3_text_104 (by decide) ?_
                  refine lv_iload_n hx hb dX3_text_106 rfl (lv_at hl 3 rfl) ?_
                  refine lv_iload_n hx hb dX3_text_107 rfl (lv_at hl 0 rfl) ?_
                  refine lv_idiv hx hb dX3_text_108 (by decide) ?_
                  refine lv_bipush (v := 10) hx hb dX3_text_109 (by decide) ?_
                  refine lv_irem hx hb dX3_text_111 (by decide) ?_
                  refine lv_iadd hx hb dX3_text_112 ?_
                  refine lv_topi (fun z95 ez95 => ?_)
                  obtain rfl : z95 = nI (48 + i / 10 % 10) := ez95.trans (dg_10 hi128)
                  refine gVv (As := [.int (nI (48 + i / 10 % 10))]) (rest := []) ⟨hx, hb, hml, hown, hts⟩ (c_X3_write l dC dI A v80 ht82 (wt_rm 2 hend hi_i (by simp) (by decide)) (nI (48 + i / 10 % 10))) (cwV 1 hts (gi_V hbc tw_335 tw_337 ts_6 tw_4 tw_338) rfl rfl rfl (by decide +kernel) ⟨Nat.le_of_ble_eq_true rfl, Nat.le_of_ble_eq_true rfl⟩) (va_recv hK hP (ci := 3) (q0 := 0) rfl rfl) aR_mono aR_D hP hK hD hS rfl hl.1 rfl (Nat.le_of_ble_eq_true rfl) dX3_text_113 ⟨Nat.le_of_ble_eq_true rfl, Nat.le_of_ble_eq_true rfl⟩ (fun v98 H locs hq97 hP hD hS => ?_)
                  obtain ⟨h99, ht100⟩ := hq97
                  have h99 := tr2 h99 h81
                  refine lv_iload_n hx hb dX3_text_116 rfl (lv_at hl 0 rfl) ?_
                  refine lv_bipush (v := 10) hx hb dX3_text_117 (by decide) ?_
                  refine lv_idiv hx hb dX3_text_119 (by decide) ?_
                  refine lv_topi (fun z101 ez101 => ?_)
                  obtain rfl : z101 = 1 := ez101.trans (by decide)
                  refine lv_istore_n (lv' := [(3, .int 1), (0, .ref (mh_ A)), (1, .int p0), (2, .int (nI i))]) hx hb dX3_text_120 rfl hl (by decide) rfl (fun ls hl => ?_)
                  refine lv_goto (tgt := 99) hx hb dX3_text_121 (by decide) ?_
                  refine lv_iload_n hx hb dX3_text_99 rfl (lv_at hl 0 rfl) ?_
                  refine lv_if_le (tgt := 124) hx hb dX3_text_100 (by decide) (fun c102 => ?_) (fun c102 => ?_)
                  · exact absurd c102 (by decide)
                  · refine lv_aload_n hx hb dX3_text_103 rfl (lv_at hl 1 rfl) ?_
                    refine lv_bipush (v := 48) hx hb dX3_text_104 (by decide) ?_
                    refine lv_iload_n hx hb dX3_text_106 rfl (lv_at hl 3 rfl) ?_
                    refine lv_iload_n hx hb dX3_text_107 rfl (lv_at hl 0 rfl) ?_
                    refine lv_idiv hx hb dX3_text_108 (by decide) ?_
                    refine lv_bipush (v := 10) hx hb dX3_text_109 (by decide) ?_
                    refine lv_irem hx hb dX3_text_111 (by decide) ?_
                    refine lv_iadd hx hb dX3_text_112 ?_
                    refine lv_topi (fun z103 ez103 => ?_)
                    obtain rfl : z103 = nI (48 + i / 1 % 10) := ez103.trans (dg_1 hi128)
                    refine gVv (As := [.int (nI (48 + i / 1 % 10))]) (rest := []) ⟨hx, hb, hml, hown, hts⟩ (c_X3_write l dC dI A v98 ht100 (wt_rm 3 hend hi_i (by simp) (by decide)) (nI (48 + i / 1 % 10))) (cwV 1 hts (gi_V hbc tw_335 tw_337 ts_6 tw_4 tw_338) rfl rfl rfl (by decide +kernel) ⟨Nat.le_of_ble_eq_true rfl, Nat.le_of_ble_eq_true rfl⟩) (va_recv hK hP (ci := 3) (q0 := 0) rfl rfl) aR_mono aR_D hP hK hD hS rfl hl.1 rfl (Nat.le_of_ble_eq_true rfl) dX3_text_113 ⟨Nat.le_of_ble_eq_true rfl, Nat.le_of_ble_eq_true rfl⟩ (fun v106 H locs hq105 hP hD hS => ?_)
                    obtain ⟨h107, ht108⟩ := hq105
                    have h107 := tr2 h107 h99
                    refine lv_iload_n hx hb dX3_text_116 rfl (lv_at hl 0 rfl) ?_
                    refine lv_bipush (v := 10) hx hb dX3_text_117 (by decide) ?_
                    refine lv_idiv hx hb dX3_text_119 (by decide) ?_
                    refine lv_topi (fun z109 ez109 => ?_)
                    obtain rfl : z109 = 0 := ez109.trans (by decide)
                    refine lv_istore_n (lv' := [(3, .int 0), (0, .ref (mh_ A)), (1, .int p0), (2, .int (nI i))]) hx hb dX3_text_120 rfl hl (by decide) rfl (fun ls hl => ?_)
                    refine lv_goto (tgt := 99) hx hb dX3_text_121 (by decide) ?_
                    refine lv_iload_n hx hb dX3_text_99 rfl (lv_at hl 0 rfl) ?_
                    refine lv_if_le (tgt := 124) hx hb dX3_text_100 (by decide) (fun c110 => ?_) (fun c110 => ?_)
                    · refine lv_iinc (v := nI (i + 1)) (lv' := [(2, .int (nI (i + 1))), (3, .int 0), (0, .ref (mh_ A)), (1, .int p0)]) hx hb dX3_text_124 hl (k := 3) rfl (nI_1 _) (by decide) rfl (fun ls hl => ?_)
                      refine lv_goto (tgt := 34) hx hb dX3_text_127 (by decide) ?_
                      exact ih_i _ _ _ (by omega) ⟨v106, hP, hD, hS, lv_sub hl [2, 3, 0] rfl, h107, by rw [wt_s c18, p2_gt c19, dl_2 hi128 c83 c84]; exact ht108⟩
                    · exact absurd (by decide) c110
            · refine lv_bipush (v := 100) hx hb dX3_text_81 (by decide) ?_
              refine lv_goto (tgt := 98) hx hb dX3_text_83 (by decide) ?_
              refine lv_istore_n (lv' := [(3, .int 100), (0, .ref (mh_ A)), (1, .int p0), (2, .int (nI i))]) hx hb dX3_text_98 rfl hl (by decide) rfl (fun ls hl => ?_)
              refine lv_iload_n hx hb dX3_text_99 rfl (lv_at hl 0 rfl) ?_
              refine lv_if_le (tgt := 124) hx hb dX3_text_100 (by decide) (fun c111 => ?_) (fun c111 => ?_)
              · exact absurd c111 (by decide)
              · refine lv_aload_n hx hb dX3_text_103 rfl (lv_at hl 1 rfl) ?_
                refine lv_bipush (v := 48) hx hb dX3_text_104 (by decide) ?_
                refine lv_iload_n hx hb dX3_text_106 rfl (lv_at hl 3 rfl) ?_
                refine lv_iload_n hx hb dX3_text_107 rfl (lv_at hl 0 rfl) ?_
                refine lv_idiv hx hb dX3_text_108 (by decide) ?_
                refine lv_bipush (v := 10) hx hb dX3_text_109 (by decide) ?_
                refine lv_irem hx hb dX3_text_111 (by decide) ?_
                refine lv_iadd hx hb dX3_text_112 ?_
                refine lv_topi (fun z112 ez112 => ?_)
                obtain rfl : z112 = nI (48 + i / 100 % 10) := ez112.trans (dg_100 hi128)
                refine gVv (As := [.int (nI (48 + i / 100 % 10))]) (rest := []) ⟨hx, hb, hml, hown, hts⟩ (c_X3_write l dC dI A v80 ht82 (wt_rm 2 hend hi_i (by simp) (by decide)) (nI (48 + i / 100 % 10))) (cwV 1 hts (gi_V hbc tw_335 tw_337 ts_6 tw_4 tw_338) rfl rfl rfl (by decide +kernel) ⟨Nat.le_of_ble_eq_true rfl, Nat.le_of_ble_eq_true rfl⟩) (va_recv hK hP (ci := 3) (q0 := 0) rfl rfl) aR_mono aR_D hP hK hD hS rfl hl.1 rfl (Nat.le_of_ble_eq_true rfl) dX3_text_113 ⟨Nat.le_of_ble_eq_true rfl, Nat.le_of_ble_eq_true rfl⟩ (fun v115 H locs hq114 hP hD hS => ?_)
                obtain ⟨h116, ht117⟩ := hq114
                have h116 := tr2 h116 h81
                refine lv_iload_n hx hb dX3_text_116 rfl (lv_at hl 0 rfl) ?_
                refine lv_bipush (v := 10) hx hb dX3_text_117 (by decide) ?_
                refine lv_idiv hx hb dX3_text_119 (by decide) ?_
                refine lv_topi (fun z118 ez118 => ?_)
                obtain rfl : z118 = 10 := ez118.trans (by decide)
                refine lv_istore_n (lv' := [(3, .int 10), (0, .ref (mh_ A)), (1, .int p0), (2, .int (nI i))]) hx hb dX3_text_120 rfl hl (by decide) rfl (fun ls hl => ?_)
                refine lv_goto (tgt := 99) hx hb dX3_text_121 (by decide) ?_
                refine lv_iload_n hx hb dX3_text_99 rfl (lv_at hl 0 rfl) ?_
                refine lv_if_le (tgt := 124) hx hb dX3_text_100 (by decide) (fun c119 => ?_) (fun c119 => ?_)
                · exact absurd c119 (by decide)
                · refine lv_aload_n hx hb dX3_text_103 rfl (lv_at hl 1 rfl) ?_
                  refine lv_bipush (v := 48) hx hb dX3_text_104 (by decide) ?_
                  refine lv_iload_n hx hb dX3_text_106 rfl (lv_at hl 3 rfl) ?_
                  refine lv_iload_n hx hb dX3_text_107 rfl (lv_at hl 0 rfl) ?_
                  refine lv_idiv hx hb dX3_text_108 (by decide) ?_
                  refine lv_bipush (v := 10) hx hb dX3_text_109 (by decide) ?_
                  refine lv_irem hx hb dX3_text_111 (by decide) ?_
                  refine lv_iadd hx hb dX3_text_112 ?_
                  refine lv_topi (fun z120 ez120 => ?_)
                  obtain rfl : z120 = nI (48 + i / 10 % 10) := ez120.trans (dg_10 hi128)
                  refine gVv (As := [.int (nI (48 + i / 10 % 10))]) (rest := []) ⟨hx, hb, hml, hown, hts⟩ (c_X3_write l dC dI A v115 ht117 (wt_rm 3 hend hi_i (by simp) (by decide)) (nI (48 + i / 10 % 10))) (cwV 1 hts (gi_V hbc tw_335 tw_337 ts_6 tw_4 tw_338) rfl rfl rfl (by decide +kernel) ⟨Nat.le_of_ble_eq_true rfl, Nat.le_of_ble_eq_true rfl⟩) (va_recv hK hP (ci := 3) (q0 := 0) rfl rfl) aR_mono aR_D hP hK hD hS rfl hl.1 rfl (Nat.le_of_ble_eq_true rfl) dX3_text_113 ⟨Nat.le_of_ble_eq_true rfl, Nat.le_of_ble_eq_true rfl⟩ (fun v123 H locs hq122 hP hD hS => ?_)
                  obtain ⟨h124, ht125⟩ := hq122
                  have h124 := tr2 h124 h116
                  refine lv_iload_n hx hb dX3_text_116 rfl (lv_at hl 0 rfl) ?_
                  refine lv_bipush (v := 10) hx hb dX3_text_117 (by decide) ?_
                  refine lv_idiv hx hb dX3_text_119 (by decide) ?_
                  refine lv_topi (fun z126 ez126 => ?_)
                  obtain rfl : z126 = 1 := ez126.trans (by decide)
                  refine lv_istore_n (lv' := [(3, .int 1), (0, .ref (mh_ A)), (1, .int p0), (2, .int (nI i))]) hx hb dX3_text_120 rfl hl (by decide) rfl (fun ls hl => ?_)
                  refine lv_goto (tgt := 99) hx hb dX3_text_121 (by decide) ?_
                  refine lv_iload_n hx hb dX3_text_99 rfl (lv_at hl 0 rfl) ?_
                  refine lv_if_le (tgt := 124) hx hb dX3_text_100 (by decide) (fun c127 => ?_) (fun c127 => ?_)
                  · exact absurd c127 (by decide)
                  · refine lv_aload_n hx hb dX3_text_103 rfl (lv_at hl 1 rfl) ?_
                    refine lv_bipush (v := 48) hx hb dX3_text_104 (by decide) ?_
                    refine lv_iload_n hx hb dX3_text_106 rfl (lv_at hl 3 rfl) ?_
                    refine lv_iload_n hx hb dX3_text_107 rfl (lv_at hl 0 rfl) ?_
                    refine lv_idiv hx hb dX3_text_108 (by decide) ?_
                    refine lv_bipush (v := 10) hx hb dX3_text_109 (by decide) ?_
                    refine lv_irem hx hb dX3_text_111 (by decide) ?_
                    refine lv_iadd hx hb dX3_text_112 ?_
                    refine lv_topi (fun z128 ez128 => ?_)
                    obtain rfl : z128 = nI (48 + i / 1 % 10) := ez128.trans (dg_1 hi128)
                    refine gVv (As := [.int (nI (48 + i / 1 % 10))]) (rest := []) ⟨hx, hb, hml, hown, hts⟩ (c_X3_write l dC dI A v123 ht125 (wt_rm 4 hend hi_i (by simp) (by decide)) (nI (48 + i / 1 % 10))) (cwV 1 hts (gi_V hbc tw_335 tw_337 ts_6 tw_4 tw_338) rfl rfl rfl (by decide +kernel) ⟨Nat.le_of_ble_eq_true rfl, Nat.le_of_ble_eq_true rfl⟩) (va_recv hK hP (ci := 3) (q0 := 0) rfl rfl) aR_mono aR_D hP hK hD hS rfl hl.1 rfl (Nat.le_of_ble_eq_true rfl) dX3_text_113 ⟨Nat.le_of_ble_eq_true rfl, Nat.le_of_ble_eq_true rfl⟩ (fun v131 H locs hq130 hP hD hS => ?_)
                    obtain ⟨h132, ht133⟩ := hq130
                    have h132 := tr2 h132 h124
                    refine lv_iload_n hx hb dX3_text_116 rfl (lv_at hl 0 rfl) ?_
                    refine lv_bipush (v := 10) hx hb dX3_text_117 (by decide) ?_
                    refine lv_idiv hx hb dX3_text_119 (by decide) ?_
                    refine lv_topi (fun z134 ez134 => ?_)
                    obtain rfl : z134 = 0 := ez134.trans (by decide)
                    refine lv_istore_n (lv' := [(3, .int 0), (0, .ref (mh_ A)), (1, .int p0), (2, .int (nI i))]) hx hb dX3_text_120 rfl hl (by decide) rfl (fun ls hl => ?_)
                    refine lv_goto (tgt := 99) hx hb dX3_text_121 (by decide) ?_
                    refine lv_iload_n hx hb dX3_text_99 rfl (lv_at hl 0 rfl) ?_
                    refine lv_if_le (tgt := 124) hx hb dX3_text_100 (by decide) (fun c135 => ?_) (fun c135 => ?_)
                    · refine lv_iinc (v := nI (i + 1)) (lv' := [(2, .int (nI (i + 1))), (3, .int 0), (0, .ref (mh_ A)), (1, .int p0)]) hx hb dX3_text_124 hl (k := 3) rfl (nI_1 _) (by decide) rfl (fun ls hl => ?_)
                      refine lv_goto (tgt := 34) hx hb dX3_text_127 (by decide) ?_
                      exact ih_i _ _ _ (by omega) ⟨v131, hP, hD, hS, lv_sub hl [2, 3, 0] rfl, h132, by rw [wt_s c18, p2_gt c19, dl_3 hi128 c83]; exact ht133⟩
                    · exact absurd (by decide) c135
        · have c18 := b1f (b := _) c18
          refine lv_goto (tgt := 124) hx hb dX3_text_52 (by decide) ?_
          refine lv_iinc (v := nI (i + 1)) (lv' := [(2, .int (nI (i + 1))), (0, .ref (mh_ A)), (1, .int p0)]) hx hb dX3_text_124 hl (k := 2) rfl (nI_1 _) (by decide) rfl (fun ls hl => ?_)
          refine lv_goto (tgt := 34) hx hb dX3_text_127 (by decide) ?_
          exact ih_i _ _ _ (by omega) ⟨v, hP, hD, hS, lv_sub hl [1, 2, 0] rfl, hF1, by rw [wt_n c18]; exact hF2⟩
    · refine lv_bipush (v := -2) hx hb dX3_text_18 (by decide) ?_
      exact W.iret hx hb hr (fun t9 ht9 hW => ⟨⟨_, u, rfl, Or.inl ⟨c1, ⟨_, hq3, Or.inr ⟨c5, rfl, rfl⟩⟩⟩, by rw [ht9]; exact hP, va_K.moved hW.alike hK, hD⟩, hS.F ht9⟩) hS.2.2 dX3_text_20
end
