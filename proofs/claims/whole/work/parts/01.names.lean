def RX0 : String := "BitBoard$Row"
def RX1 : String := "BitBoard$Signs"
def RX2 : String := "BitBoard"
def RX3 : String := "BitBoardModel"
def RJ6 : String := "java/lang/Integer"
def RJ7 : String := "java/lang/Long"
def RL : String := "BitBoardLaw"
def TX0 : u_T := fun k => match k with
  | _ => ("BitBoard$Row", "words", "[J", true)
def tyX0 : Nat → FieldType := fun k => match k with
  | _ => .array .long
theorem nmX0 : ∀ a, a < 1 → ∀ b, b < 1 → a ≠ b → (TX0 a).2.1 ≠ (TX0 b).2.1 := by decide +kernel
theorem tyX0_ok : ∀ k, k < 1 → parseFieldDescriptor (TX0 k).2.2.1 = some (tyX0 k) := by decide +kernel
theorem inX0 : ∀ w ∈ u_ws RX0 TX0 1, w ∈ lw_tbl := by decide +kernel
def TX1 : u_T := fun k => match k with
  | 0 => ("BitBoard$Signs", "signs", "[C", true)
  | _ => ("BitBoard$Signs", "length", "I", false)
def tyX1 : Nat → FieldType := fun k => match k with
  | 0 => .array .char
  | _ => .int
theorem nmX1 : ∀ a, a < 2 → ∀ b, b < 2 → a ≠ b → (TX1 a).2.1 ≠ (TX1 b).2.1 := by decide +kernel
theorem tyX1_ok : ∀ k, k < 2 → parseFieldDescriptor (TX1 k).2.2.1 = some (tyX1 k) := by decide +kernel
theorem inX1 : ∀ w ∈ u_ws RX1 TX1 2, w ∈ lw_tbl := by decide +kernel
def TX2 : u_T := fun k => match k with
  | 0 => ("BitBoard", "rows", "[LBitBoard$Row;", true)
  | _ => ("BitBoard", "latest", "LBitBoard$Signs;", true)
def tyX2 : Nat → FieldType := fun k => match k with
  | 0 => .array (.object "BitBoard$Row")
  | _ => .object "BitBoard$Signs"
theorem nmX2 : ∀ a, a < 2 → ∀ b, b < 2 → a ≠ b → (TX2 a).2.1 ≠ (TX2 b).2.1 := by decide +kernel
theorem tyX2_ok : ∀ k, k < 2 → parseFieldDescriptor (TX2 k).2.2.1 = some (tyX2 k) := by decide +kernel
theorem inX2 : ∀ w ∈ u_ws RX2 TX2 2, w ∈ lw_tbl := by decide +kernel
def TX3 : u_T := fun k => match k with
  | 0 => ("BitBoardModel", "rows", "[[Z", true)
  | 1 => ("BitBoardModel", "piece", "[Z", true)
  | 2 => ("BitBoardModel", "signs", "[B", true)
  | _ => ("BitBoardModel", "signCount", "I", false)
def tyX3 : Nat → FieldType := fun k => match k with
  | 0 => .array (.array .boolean)
  | 1 => .array .boolean
  | 2 => .array .byte
  | _ => .int
theorem nmX3 : ∀ a, a < 4 → ∀ b, b < 4 → a ≠ b → (TX3 a).2.1 ≠ (TX3 b).2.1 := by decide +kernel
theorem tyX3_ok : ∀ k, k < 4 → parseFieldDescriptor (TX3 k).2.2.1 = some (tyX3 k) := by decide +kernel
theorem inX3 : ∀ w ∈ u_ws RX3 TX3 4, w ∈ lw_tbl := by decide +kernel
abbrev bwCl : List vw_C := [(RX0, TX0, 1), (RX1, TX1, 2), (RX2, TX2, 2), (RX3, TX3, 4)]
abbrev cX2_init : ByteArray := prog_1_method_1_code
def yX2_init : MethodName := ⟨RX2, "<init>", "()V"⟩
abbrev cX0_init : ByteArray := prog_2_method_1_code
def yX0_init : MethodName := ⟨RX0, "<init>", "()V"⟩
abbrev cX1_init : ByteArray := prog_3_method_1_code
def yX1_init : MethodName := ⟨RX1, "<init>", "()V"⟩
abbrev cX2_set : ByteArray := prog_1_method_2_code
def yX2_set : MethodName := ⟨RX2, "set", "(III)I"⟩
abbrev cX2_isRow : ByteArray := prog_1_method_17_code
def yX2_isRow : MethodName := ⟨RX2, "isRow", "(I)Z"⟩
abbrev cX2_isChange : ByteArray := prog_1_method_20_code
def yX2_isChange : MethodName := ⟨RX2, "isChange", "(I)Z"⟩
abbrev cX2_isPlace : ByteArray := prog_1_method_18_code
def yX2_isPlace : MethodName := ⟨RX2, "isPlace", "(I)Z"⟩
abbrev cX0_bit : ByteArray := prog_2_method_3_code
def yX0_bit : MethodName := ⟨RX0, "bit", "(I)I"⟩
abbrev cX0_wordAt : ByteArray := prog_2_method_2_code
def yX0_wordAt : MethodName := ⟨RX0, "wordAt", "(I)J"⟩
abbrev cX0_change : ByteArray := prog_2_method_6_code
def yX0_change : MethodName := ⟨RX0, "change", "(III)V"⟩
abbrev cX0_lowBits : ByteArray := prog_2_method_16_code
def yX0_lowBits : MethodName := ⟨RX0, "lowBits", "(I)J"⟩
abbrev cX0_changed : ByteArray := prog_2_method_17_code
def yX0_changed : MethodName := ⟨RX0, "changed", "(JIJ)J"⟩
abbrev cX2_piece : ByteArray := prog_1_method_3_code
def yX2_piece : MethodName := ⟨RX2, "piece", "(IIII)I"⟩
abbrev cX2_isPiece : ByteArray := prog_1_method_19_code
def yX2_isPiece : MethodName := ⟨RX2, "isPiece", "(II)Z"⟩
abbrev cX0_ones : ByteArray := prog_2_method_4_code
def yX0_ones : MethodName := ⟨RX0, "ones", "()I"⟩
abbrev cJ7_bitCount : ByteArray := prog_7_method_50_code
def yJ7_bitCount : MethodName := ⟨RJ7, "bitCount", "(J)I"⟩
abbrev cX2_get : ByteArray := prog_1_method_4_code
def yX2_get : MethodName := ⟨RX2, "get", "(II)I"⟩
abbrev cX2_next : ByteArray := prog_1_method_5_code
def yX2_next : MethodName := ⟨RX2, "next", "(III)I"⟩
abbrev cX0_firstFrom : ByteArray := prog_2_method_7_code
def yX0_firstFrom : MethodName := ⟨RX0, "firstFrom", "(IJ)I"⟩
abbrev cJ7_numberOfTrailingZeros : ByteArray := prog_7_method_49_code
def yJ7_numberOfTrailingZeros : MethodName := ⟨RJ7, "numberOfTrailingZeros", "(J)I"⟩
abbrev cJ6_numberOfTrailingZeros : ByteArray := prog_6_method_48_code
def yJ6_numberOfTrailingZeros : MethodName := ⟨RJ6, "numberOfTrailingZeros", "(I)I"⟩
abbrev cX0_lastUpTo : ByteArray := prog_2_method_8_code
def yX0_lastUpTo : MethodName := ⟨RX0, "lastUpTo", "(IJ)I"⟩
abbrev cJ7_numberOfLeadingZeros : ByteArray := prog_7_method_48_code
def yJ7_numberOfLeadingZeros : MethodName := ⟨RJ7, "numberOfLeadingZeros", "(J)I"⟩
abbrev cJ6_numberOfLeadingZeros : ByteArray := prog_6_method_47_code
def yJ6_numberOfLeadingZeros : MethodName := ⟨RJ6, "numberOfLeadingZeros", "(I)I"⟩
abbrev cX2_join : ByteArray := prog_1_method_6_code
def yX2_join : MethodName := ⟨RX2, "join", "(III)I"⟩
abbrev cX0_combine : ByteArray := prog_2_method_9_code
def yX0_combine : MethodName := ⟨RX0, "combine", "(ILBitBoard$Row;)V"⟩
abbrev cX0_combined : ByteArray := prog_2_method_18_code
def yX0_combined : MethodName := ⟨RX0, "combined", "(JIJ)J"⟩
abbrev cX2_cut : ByteArray := prog_1_method_7_code
def yX2_cut : MethodName := ⟨RX2, "cut", "(IIII)I"⟩
abbrev cX0_takePiece : ByteArray := prog_2_method_10_code
def yX0_takePiece : MethodName := ⟨RX0, "takePiece", "(LBitBoard$Row;II)V"⟩
abbrev cX0_bitsFrom : ByteArray := prog_2_method_15_code
def yX0_bitsFrom : MethodName := ⟨RX0, "bitsFrom", "(I)J"⟩
abbrev cX2_copy : ByteArray := prog_1_method_8_code
def yX2_copy : MethodName := ⟨RX2, "copy", "(II)I"⟩
abbrev cX2_look : ByteArray := prog_1_method_9_code
def yX2_look : MethodName := ⟨RX2, "look", "(II)I"⟩
abbrev cX0_end : ByteArray := prog_2_method_5_code
def yX0_end : MethodName := ⟨RX0, "end", "()I"⟩
abbrev cX2_meet : ByteArray := prog_1_method_10_code
def yX2_meet : MethodName := ⟨RX2, "meet", "(III)I"⟩
abbrev cX0_sharesOne : ByteArray := prog_2_method_12_code
def yX0_sharesOne : MethodName := ⟨RX0, "sharesOne", "(LBitBoard$Row;)Z"⟩
abbrev cX0_isSame : ByteArray := prog_2_method_13_code
def yX0_isSame : MethodName := ⟨RX0, "isSame", "(LBitBoard$Row;)Z"⟩
abbrev cX2_word : ByteArray := prog_1_method_11_code
def yX2_word : MethodName := ⟨RX2, "word", "(II)J"⟩
abbrev cX2_load : ByteArray := prog_1_method_12_code
def yX2_load : MethodName := ⟨RX2, "load", "(IJJJ)I"⟩
abbrev cX0_takeWords : ByteArray := prog_2_method_11_code
def yX0_takeWords : MethodName := ⟨RX0, "takeWords", "(JJJ)V"⟩
abbrev cX2_walk : ByteArray := prog_1_method_13_code
def yX2_walk : MethodName := ⟨RX2, "walk", "(I)J"⟩
abbrev cX0_rankedSum : ByteArray := prog_2_method_14_code
def yX0_rankedSum : MethodName := ⟨RX0, "rankedSum", "()J"⟩
abbrev cX2_clear : ByteArray := prog_1_method_14_code
def yX2_clear : MethodName := ⟨RX2, "clear", "(I)I"⟩
abbrev cX2_text : ByteArray := prog_1_method_15_code
def yX2_text : MethodName := ⟨RX2, "text", "(I)I"⟩
abbrev cX1_write : ByteArray := prog_3_method_4_code
def yX1_write : MethodName := ⟨RX1, "write", "(LBitBoard$Row;)V"⟩
abbrev cX1_add : ByteArray := prog_3_method_7_code
def yX1_add : MethodName := ⟨RX1, "add", "(C)V"⟩
abbrev cX1_addPlace : ByteArray := prog_3_method_5_code
def yX1_addPlace : MethodName := ⟨RX1, "addPlace", "(I)V"⟩
abbrev cX1_addDigit : ByteArray := prog_3_method_6_code
def yX1_addDigit : MethodName := ⟨RX1, "addDigit", "(I)V"⟩
abbrev cX1_length : ByteArray := prog_3_method_2_code
def yX1_length : MethodName := ⟨RX1, "length", "()I"⟩
abbrev cX2_octet : ByteArray := prog_1_method_16_code
def yX2_octet : MethodName := ⟨RX2, "octet", "(I)I"⟩
abbrev cX1_codeAt : ByteArray := prog_3_method_3_code
def yX1_codeAt : MethodName := ⟨RX1, "codeAt", "(I)I"⟩
abbrev cX3_init : ByteArray := prog_5_method_1_code
def yX3_init : MethodName := ⟨RX3, "<init>", "()V"⟩
abbrev cX3_set : ByteArray := prog_5_method_7_code
def yX3_set : MethodName := ⟨RX3, "set", "(III)I"⟩
abbrev cX3_isRow : ByteArray := prog_5_method_2_code
def yX3_isRow : MethodName := ⟨RX3, "isRow", "(I)Z"⟩
abbrev cX3_isPlace : ByteArray := prog_5_method_3_code
def yX3_isPlace : MethodName := ⟨RX3, "isPlace", "(I)Z"⟩
abbrev cX3_changed : ByteArray := prog_5_method_6_code
def yX3_changed : MethodName := ⟨RX3, "changed", "(ZI)Z"⟩
abbrev cX3_piece : ByteArray := prog_5_method_8_code
def yX3_piece : MethodName := ⟨RX3, "piece", "(IIII)I"⟩
abbrev cX3_isPiece : ByteArray := prog_5_method_4_code
def yX3_isPiece : MethodName := ⟨RX3, "isPiece", "(II)Z"⟩
abbrev cX3_ones : ByteArray := prog_5_method_5_code
def yX3_ones : MethodName := ⟨RX3, "ones", "(I)I"⟩
abbrev cX3_get : ByteArray := prog_5_method_9_code
def yX3_get : MethodName := ⟨RX3, "get", "(II)I"⟩
abbrev cX3_next : ByteArray := prog_5_method_10_code
def yX3_next : MethodName := ⟨RX3, "next", "(III)I"⟩
abbrev cX3_join : ByteArray := prog_5_method_11_code
def yX3_join : MethodName := ⟨RX3, "join", "(III)I"⟩
abbrev cX3_cut : ByteArray := prog_5_method_12_code
def yX3_cut : MethodName := ⟨RX3, "cut", "(IIII)I"⟩
abbrev cX3_copy : ByteArray := prog_5_method_13_code
def yX3_copy : MethodName := ⟨RX3, "copy", "(II)I"⟩
abbrev cX3_look : ByteArray := prog_5_method_15_code
def yX3_look : MethodName := ⟨RX3, "look", "(II)I"⟩
abbrev cX3_end : ByteArray := prog_5_method_14_code
def yX3_end : MethodName := ⟨RX3, "end", "(I)I"⟩
abbrev cX3_meet : ByteArray := prog_5_method_16_code
def yX3_meet : MethodName := ⟨RX3, "meet", "(III)I"⟩
abbrev cX3_word : ByteArray := prog_5_method_17_code
def yX3_word : MethodName := ⟨RX3, "word", "(II)J"⟩
abbrev cX3_load : ByteArray := prog_5_method_18_code
def yX3_load : MethodName := ⟨RX3, "load", "(IJJJ)I"⟩
abbrev cX3_walk : ByteArray := prog_5_method_19_code
def yX3_walk : MethodName := ⟨RX3, "walk", "(I)J"⟩
abbrev cX3_clear : ByteArray := prog_5_method_20_code
def yX3_clear : MethodName := ⟨RX3, "clear", "(I)I"⟩
abbrev cX3_text : ByteArray := prog_5_method_22_code
def yX3_text : MethodName := ⟨RX3, "text", "(I)I"⟩
abbrev cX3_write : ByteArray := prog_5_method_21_code
def yX3_write : MethodName := ⟨RX3, "write", "(I)V"⟩
abbrev cX3_octet : ByteArray := prog_5_method_23_code
def yX3_octet : MethodName := ⟨RX3, "octet", "(I)I"⟩
abbrev cL_law : ByteArray := code
def tg_ : List Cond := lw_tbl.filter goodWord
theorem tg_in {w : Cond} (h : w ∈ lw_tbl) (g : goodWord w = true) : w ∈ tg_ := List.mem_filter.mpr ⟨h, g⟩
theorem tg_good {w : Cond} (h : w ∈ tg_) : goodWord w = true := (List.mem_filter.mp h).2
theorem tg_tbl {w : Cond} (h : w ∈ tg_) : w ∈ lw_tbl := (List.mem_filter.mp h).1
theorem tw_0 : (.initialized RL : Cond) ∈ tg_ := tg_in (List.mem_of_getElem? (i := 7) (by decide +kernel)) rfl
theorem tw_1 : (.initialized RX2 : Cond) ∈ tg_ := tg_in (List.mem_of_getElem? (i := 8) (by decide +kernel)) rfl
theorem tw_2 : (.initialized RX0 : Cond) ∈ tg_ := tg_in (List.mem_of_getElem? (i := 9) (by decide +kernel)) rfl
theorem tw_3 : (.initialized RX1 : Cond) ∈ tg_ := tg_in (List.mem_of_getElem? (i := 10) (by decide +kernel)) rfl
theorem tw_4 : (.initialized RX3 : Cond) ∈ tg_ := tg_in (List.mem_of_getElem? (i := 11) (by decide +kernel)) rfl
theorem tw_5 : (.initialized RJ7 : Cond) ∈ tg_ := tg_in (List.mem_of_getElem? (i := 12) (by decide +kernel)) rfl
theorem tw_6 : (.initialized RJ6 : Cond) ∈ tg_ := tg_in (List.mem_of_getElem? (i := 13) (by decide +kernel)) rfl
theorem tw_7 : (.classLink RL 7 RX2 : Cond) ∈ tg_ := tg_in (List.mem_of_getElem? (i := 14) (by decide +kernel)) rfl
theorem tw_8 : (.instantiable RX2 2 : Cond) ∈ tg_ := tg_in (List.mem_of_getElem? (i := 15) (by decide +kernel)) rfl
theorem tw_9 : (.methodLink RL 9 yX2_init : Cond) ∈ tg_ := tg_in (List.mem_of_getElem? (i := 16) (by decide +kernel)) rfl
theorem tw_10 : (.instanceMethod yX2_init : Cond) ∈ tg_ := tg_in (List.mem_of_getElem? (i := 17) (by decide +kernel)) rfl
theorem tw_11 : (.code yX2_init cX2_init 2 none : Cond) ∈ tg_ := tg_in (List.mem_of_getElem? (i := 18) rfl) rfl
theorem tw_12 : (.methodLink RX2 1 objectInit : Cond) ∈ tg_ := tg_in (List.mem_of_getElem? (i := 19) (by decide +kernel)) rfl
theorem tw_13 : (.instanceMethod objectInit : Cond) ∈ tg_ := tg_in (List.mem_of_getElem? (i := 20) (by decide +kernel)) rfl
theorem tw_14 : (.code objectInit object_method_1_code 1 none : Cond) ∈ tg_ := tg_in (List.mem_of_getElem? (i := 21) rfl) rfl
theorem tw_15 : (.classLink RX2 9 RX0 : Cond) ∈ tg_ := tg_in (List.mem_of_getElem? (i := 22) (by decide +kernel)) rfl
theorem tn_16 : (.arrayOver (.object "BitBoard$Row") : Cond) ∈ lw_tbl := List.mem_of_getElem? (i := 23) (by decide +kernel)
theorem tw_17 : (.instantiable RX0 1 : Cond) ∈ tg_ := tg_in (List.mem_of_getElem? (i := 24) (by decide +kernel)) rfl
theorem tn_18 : (.methodLinkNest RX2 15 yX0_init RX2 : Cond) ∈ lw_tbl := List.mem_of_getElem? (i := 25) (by decide +kernel)
theorem tw_19 : (.instanceMethod yX0_init : Cond) ∈ tg_ := tg_in (List.mem_of_getElem? (i := 26) (by decide +kernel)) rfl
theorem tw_20 : (.code yX0_init cX0_init 1 none : Cond) ∈ tg_ := tg_in (List.mem_of_getElem? (i := 27) rfl) rfl
theorem tw_21 : (.methodLink RX0 3 objectInit : Cond) ∈ tg_ := tg_in (List.mem_of_getElem? (i := 28) (by decide +kernel)) rfl
theorem tw_22 : (.fieldLink RX0 11 "BitBoard$Row" "words" "[J" : Cond) ∈ tg_ := tg_in (List.mem_of_getElem? (i := 29) (by decide +kernel)) rfl
theorem tw_23 : (.laysFinal RX0 "BitBoard$Row" "words" "[J" : Cond) ∈ tg_ := tg_in (List.mem_of_getElem? (i := 30) (by decide +kernel)) rfl
theorem tw_26 : (.arrayClass .long : Cond) ∈ tg_ := tg_in (List.mem_of_getElem? (i := 33) (by decide +kernel)) rfl
theorem tw_27 : (.classLink RX2 16 RX1 : Cond) ∈ tg_ := tg_in (List.mem_of_getElem? (i := 34) (by decide +kernel)) rfl
theorem tw_28 : (.instantiable RX1 2 : Cond) ∈ tg_ := tg_in (List.mem_of_getElem? (i := 35) (by decide +kernel)) rfl
theorem tn_29 : (.methodLinkNest RX2 18 yX1_init RX2 : Cond) ∈ lw_tbl := List.mem_of_getElem? (i := 36) (by decide +kernel)
theorem tw_30 : (.instanceMethod yX1_init : Cond) ∈ tg_ := tg_in (List.mem_of_getElem? (i := 37) (by decide +kernel)) rfl
theorem tw_31 : (.code yX1_init cX1_init 1 none : Cond) ∈ tg_ := tg_in (List.mem_of_getElem? (i := 38) rfl) rfl
theorem tw_32 : (.methodLink RX1 3 objectInit : Cond) ∈ tg_ := tg_in (List.mem_of_getElem? (i := 39) (by decide +kernel)) rfl
theorem tw_33 : (.fieldLink RX1 11 "BitBoard$Signs" "signs" "[C" : Cond) ∈ tg_ := tg_in (List.mem_of_getElem? (i := 40) (by decide +kernel)) rfl
theorem tw_34 : (.fieldLink RX1 15 "BitBoard$Signs" "length" "I" : Cond) ∈ tg_ := tg_in (List.mem_of_getElem? (i := 41) (by decide +kernel)) rfl
theorem tw_35 : (.laysFinal RX1 "BitBoard$Signs" "signs" "[C" : Cond) ∈ tg_ := tg_in (List.mem_of_getElem? (i := 42) (by decide +kernel)) rfl
theorem tw_37 : (.lays RX1 "BitBoard$Signs" "length" "I" : Cond) ∈ tg_ := tg_in (List.mem_of_getElem? (i := 44) (by decide +kernel)) rfl
theorem tw_40 : (.arrayClass .char : Cond) ∈ tg_ := tg_in (List.mem_of_getElem? (i := 47) (by decide +kernel)) rfl
theorem tw_41 : (.fieldLink RX2 11 "BitBoard" "rows" "[LBitBoard$Row;" : Cond) ∈ tg_ := tg_in (List.mem_of_getElem? (i := 48) (by decide +kernel)) rfl
theorem tw_42 : (.fieldLink RX2 19 "BitBoard" "latest" "LBitBoard$Signs;" : Cond) ∈ tg_ := tg_in (List.mem_of_getElem? (i := 49) (by decide +kernel)) rfl
theorem tw_43 : (.laysFinal RX2 "BitBoard" "rows" "[LBitBoard$Row;" : Cond) ∈ tg_ := tg_in (List.mem_of_getElem? (i := 50) (by decide +kernel)) rfl
theorem tw_45 : (.laysFinal RX2 "BitBoard" "latest" "LBitBoard$Signs;" : Cond) ∈ tg_ := tg_in (List.mem_of_getElem? (i := 52) (by decide +kernel)) rfl
theorem tw_48 : (.methodLink RL 13 yX2_set : Cond) ∈ tg_ := tg_in (List.mem_of_getElem? (i := 55) (by decide +kernel)) rfl
theorem tw_49 : (.instanceMethod yX2_set : Cond) ∈ tg_ := tg_in (List.mem_of_getElem? (i := 56) (by decide +kernel)) rfl
theorem tw_50 : (.selects RX2 yX2_set yX2_set : Cond) ∈ tg_ := tg_in (List.mem_of_getElem? (i := 57) (by decide +kernel)) rfl
theorem tw_51 : (.code yX2_set cX2_set 5 (some .int) : Cond) ∈ tg_ := tg_in (List.mem_of_getElem? (i := 58) rfl) rfl
theorem tw_52 : (.methodLink RX2 23 yX2_isRow : Cond) ∈ tg_ := tg_in (List.mem_of_getElem? (i := 59) (by decide +kernel)) rfl
theorem tw_53 : (.static yX2_isRow : Cond) ∈ tg_ := tg_in (List.mem_of_getElem? (i := 60) (by decide +kernel)) rfl
theorem tw_54 : (.code yX2_isRow cX2_isRow 1 (some .boolean) : Cond) ∈ tg_ := tg_in (List.mem_of_getElem? (i := 61) rfl) rfl
theorem tw_55 : (.methodLink RX2 27 yX2_isChange : Cond) ∈ tg_ := tg_in (List.mem_of_getElem? (i := 62) (by decide +kernel)) rfl
theorem tw_56 : (.static yX2_isChange : Cond) ∈ tg_ := tg_in (List.mem_of_getElem? (i := 63) (by decide +kernel)) rfl
theorem tw_57 : (.code yX2_isChange cX2_isChange 1 (some .boolean) : Cond) ∈ tg_ := tg_in (List.mem_of_getElem? (i := 64) rfl) rfl
theorem tw_58 : (.methodLink RX2 30 yX2_isPlace : Cond) ∈ tg_ := tg_in (List.mem_of_getElem? (i := 65) (by decide +kernel)) rfl
theorem tw_59 : (.static yX2_isPlace : Cond) ∈ tg_ := tg_in (List.mem_of_getElem? (i := 66) (by decide +kernel)) rfl
theorem tw_60 : (.code yX2_isPlace cX2_isPlace 1 (some .boolean) : Cond) ∈ tg_ := tg_in (List.mem_of_getElem? (i := 67) rfl) rfl
theorem tw_61 : (.methodLink RX2 33 yX0_bit : Cond) ∈ tg_ := tg_in (List.mem_of_getElem? (i := 68) (by decide +kernel)) rfl
theorem tw_62 : (.instanceMethod yX0_bit : Cond) ∈ tg_ := tg_in (List.mem_of_getElem? (i := 69) (by decide +kernel)) rfl
theorem tw_63 : (.selects RX0 yX0_bit yX0_bit : Cond) ∈ tg_ := tg_in (List.mem_of_getElem? (i := 70) (by decide +kernel)) rfl
theorem tw_64 : (.code yX0_bit cX0_bit 2 (some .int) : Cond) ∈ tg_ := tg_in (List.mem_of_getElem? (i := 71) rfl) rfl
theorem tw_65 : (.methodLink RX0 15 yX0_wordAt : Cond) ∈ tg_ := tg_in (List.mem_of_getElem? (i := 72) (by decide +kernel)) rfl
theorem tw_66 : (.instanceMethod yX0_wordAt : Cond) ∈ tg_ := tg_in (List.mem_of_getElem? (i := 73) (by decide +kernel)) rfl
theorem tw_67 : (.selects RX0 yX0_wordAt yX0_wordAt : Cond) ∈ tg_ := tg_in (List.mem_of_getElem? (i := 74) (by decide +kernel)) rfl
theorem tw_68 : (.code yX0_wordAt cX0_wordAt 2 (some .long) : Cond) ∈ tg_ := tg_in (List.mem_of_getElem? (i := 75) rfl) rfl
theorem tw_69 : (.methodLink RX2 37 yX0_change : Cond) ∈ tg_ := tg_in (List.mem_of_getElem? (i := 76) (by decide +kernel)) rfl
theorem tw_70 : (.instanceMethod yX0_change : Cond) ∈ tg_ := tg_in (List.mem_of_getElem? (i := 77) (by decide +kernel)) rfl
theorem tw_71 : (.selects RX0 yX0_change yX0_change : Cond) ∈ tg_ := tg_in (List.mem_of_getElem? (i := 78) (by decide +kernel)) rfl
theorem tw_72 : (.code yX0_change cX0_change 7 none : Cond) ∈ tg_ := tg_in (List.mem_of_getElem? (i := 79) rfl) rfl
theorem tw_73 : (.methodLink RX0 29 yX0_lowBits : Cond) ∈ tg_ := tg_in (List.mem_of_getElem? (i := 80) (by decide +kernel)) rfl
theorem tw_74 : (.static yX0_lowBits : Cond) ∈ tg_ := tg_in (List.mem_of_getElem? (i := 81) (by decide +kernel)) rfl
theorem tw_75 : (.code yX0_lowBits cX0_lowBits 1 (some .long) : Cond) ∈ tg_ := tg_in (List.mem_of_getElem? (i := 82) rfl) rfl
theorem tw_76 : (.constantLong RX0 32 (-1) : Cond) ∈ tg_ := tg_in (List.mem_of_getElem? (i := 83) (by decide +kernel)) rfl
theorem tw_77 : (.methodLink RX0 34 yX0_changed : Cond) ∈ tg_ := tg_in (List.mem_of_getElem? (i := 84) (by decide +kernel)) rfl
theorem tw_78 : (.static yX0_changed : Cond) ∈ tg_ := tg_in (List.mem_of_getElem? (i := 85) (by decide +kernel)) rfl
theorem tw_79 : (.code yX0_changed cX0_changed 5 (some .long) : Cond) ∈ tg_ := tg_in (List.mem_of_getElem? (i := 86) rfl) rfl
theorem tw_80 : (.methodLink RL 18 yX2_piece : Cond) ∈ tg_ := tg_in (List.mem_of_getElem? (i := 87) (by decide +kernel)) rfl
theorem tw_81 : (.instanceMethod yX2_piece : Cond) ∈ tg_ := tg_in (List.mem_of_getElem? (i := 88) (by decide +kernel)) rfl
theorem tw_82 : (.selects RX2 yX2_piece yX2_piece : Cond) ∈ tg_ := tg_in (List.mem_of_getElem? (i := 89) (by decide +kernel)) rfl
theorem tw_83 : (.code yX2_piece cX2_piece 5 (some .int) : Cond) ∈ tg_ := tg_in (List.mem_of_getElem? (i := 90) rfl) rfl
theorem tw_84 : (.methodLink RX2 41 yX2_isPiece : Cond) ∈ tg_ := tg_in (List.mem_of_getElem? (i := 91) (by decide +kernel)) rfl
theorem tw_85 : (.static yX2_isPiece : Cond) ∈ tg_ := tg_in (List.mem_of_getElem? (i := 92) (by decide +kernel)) rfl
theorem tw_86 : (.code yX2_isPiece cX2_isPiece 2 (some .boolean) : Cond) ∈ tg_ := tg_in (List.mem_of_getElem? (i := 93) rfl) rfl
theorem tw_87 : (.methodLink RX2 45 yX0_ones : Cond) ∈ tg_ := tg_in (List.mem_of_getElem? (i := 94) (by decide +kernel)) rfl
theorem tw_88 : (.instanceMethod yX0_ones : Cond) ∈ tg_ := tg_in (List.mem_of_getElem? (i := 95) (by decide +kernel)) rfl
theorem tw_89 : (.selects RX0 yX0_ones yX0_ones : Cond) ∈ tg_ := tg_in (List.mem_of_getElem? (i := 96) (by decide +kernel)) rfl
theorem tw_90 : (.code yX0_ones cX0_ones 3 (some .int) : Cond) ∈ tg_ := tg_in (List.mem_of_getElem? (i := 97) rfl) rfl
theorem tw_91 : (.methodLink RX0 19 yJ7_bitCount : Cond) ∈ tg_ := tg_in (List.mem_of_getElem? (i := 98) (by decide +kernel)) rfl
theorem tw_92 : (.static yJ7_bitCount : Cond) ∈ tg_ := tg_in (List.mem_of_getElem? (i := 99) (by decide +kernel)) rfl
theorem tw_93 : (.code yJ7_bitCount cJ7_bitCount 2 (some .int) : Cond) ∈ tg_ := tg_in (List.mem_of_getElem? (i := 100) rfl) rfl
theorem tw_94 : (.constantLong RJ7 314 6148914691236517205 : Cond) ∈ tg_ := tg_in (List.mem_of_getElem? (i := 101) (by decide +kernel)) rfl
theorem tw_95 : (.constantLong RJ7 316 3689348814741910323 : Cond) ∈ tg_ := tg_in (List.mem_of_getElem? (i := 102) (by decide +kernel)) rfl
theorem tw_96 : (.constantLong RJ7 318 1085102592571150095 : Cond) ∈ tg_ := tg_in (List.mem_of_getElem? (i := 103) (by decide +kernel)) rfl
theorem tw_97 : (.methodLink RL 23 yX2_get : Cond) ∈ tg_ := tg_in (List.mem_of_getElem? (i := 104) (by decide +kernel)) rfl
theorem tw_98 : (.instanceMethod yX2_get : Cond) ∈ tg_ := tg_in (List.mem_of_getElem? (i := 105) (by decide +kernel)) rfl
theorem tw_99 : (.selects RX2 yX2_get yX2_get : Cond) ∈ tg_ := tg_in (List.mem_of_getElem? (i := 106) (by decide +kernel)) rfl
theorem tw_100 : (.code yX2_get cX2_get 3 (some .int) : Cond) ∈ tg_ := tg_in (List.mem_of_getElem? (i := 107) rfl) rfl
theorem tw_101 : (.methodLink RL 28 yX2_next : Cond) ∈ tg_ := tg_in (List.mem_of_getElem? (i := 108) (by decide +kernel)) rfl
theorem tw_102 : (.instanceMethod yX2_next : Cond) ∈ tg_ := tg_in (List.mem_of_getElem? (i := 109) (by decide +kernel)) rfl
theorem tw_103 : (.selects RX2 yX2_next yX2_next : Cond) ∈ tg_ := tg_in (List.mem_of_getElem? (i := 110) (by decide +kernel)) rfl
theorem tw_104 : (.code yX2_next cX2_next 4 (some .int) : Cond) ∈ tg_ := tg_in (List.mem_of_getElem? (i := 111) rfl) rfl
theorem tw_105 : (.methodLink RX2 49 yX0_firstFrom : Cond) ∈ tg_ := tg_in (List.mem_of_getElem? (i := 112) (by decide +kernel)) rfl
theorem tw_106 : (.instanceMethod yX0_firstFrom : Cond) ∈ tg_ := tg_in (List.mem_of_getElem? (i := 113) (by decide +kernel)) rfl
theorem tw_107 : (.selects RX0 yX0_firstFrom yX0_firstFrom : Cond) ∈ tg_ := tg_in (List.mem_of_getElem? (i := 114) (by decide +kernel)) rfl
theorem tw_108 : (.code yX0_firstFrom cX0_firstFrom 7 (some .int) : Cond) ∈ tg_ := tg_in (List.mem_of_getElem? (i := 115) rfl) rfl
theorem tw_109 : (.methodLink RX0 38 yJ7_numberOfTrailingZeros : Cond) ∈ tg_ := tg_in (List.mem_of_getElem? (i := 116) (by decide +kernel)) rfl
theorem tw_110 : (.static yJ7_numberOfTrailingZeros : Cond) ∈ tg_ := tg_in (List.mem_of_getElem? (i := 117) (by decide +kernel)) rfl
theorem tw_111 : (.code yJ7_numberOfTrailingZeros cJ7_numberOfTrailingZeros 3 (some .int) : Cond) ∈ tg_ := tg_in (List.mem_of_getElem? (i := 118) rfl) rfl
theorem tw_112 : (.methodLink RJ7 311 yJ6_numberOfTrailingZeros : Cond) ∈ tg_ := tg_in (List.mem_of_getElem? (i := 119) (by decide +kernel)) rfl
theorem tw_113 : (.static yJ6_numberOfTrailingZeros : Cond) ∈ tg_ := tg_in (List.mem_of_getElem? (i := 120) (by decide +kernel)) rfl
theorem tw_114 : (.code yJ6_numberOfTrailingZeros cJ6_numberOfTrailingZeros 2 (some .int) : Cond) ∈ tg_ := tg_in (List.mem_of_getElem? (i := 121) rfl) rfl
theorem tw_115 : (.constant RJ6 264 65536 : Cond) ∈ tg_ := tg_in (List.mem_of_getElem? (i := 122) (by decide +kernel)) rfl
theorem tw_116 : (.constantLong RX2 53 (-1) : Cond) ∈ tg_ := tg_in (List.mem_of_getElem? (i := 123) (by decide +kernel)) rfl
theorem tw_117 : (.methodLink RX2 55 yX0_lastUpTo : Cond) ∈ tg_ := tg_in (List.mem_of_getElem? (i := 124) (by decide +kernel)) rfl
theorem tw_118 : (.instanceMethod yX0_lastUpTo : Cond) ∈ tg_ := tg_in (List.mem_of_getElem? (i := 125) (by decide +kernel)) rfl
theorem tw_119 : (.selects RX0 yX0_lastUpTo yX0_lastUpTo : Cond) ∈ tg_ := tg_in (List.mem_of_getElem? (i := 126) (by decide +kernel)) rfl
theorem tw_120 : (.code yX0_lastUpTo cX0_lastUpTo 7 (some .int) : Cond) ∈ tg_ := tg_in (List.mem_of_getElem? (i := 127) rfl) rfl
theorem tw_121 : (.methodLink RX0 41 yJ7_numberOfLeadingZeros : Cond) ∈ tg_ := tg_in (List.mem_of_getElem? (i := 128) (by decide +kernel)) rfl
theorem tw_122 : (.static yJ7_numberOfLeadingZeros : Cond) ∈ tg_ := tg_in (List.mem_of_getElem? (i := 129) (by decide +kernel)) rfl
theorem tw_123 : (.code yJ7_numberOfLeadingZeros cJ7_numberOfLeadingZeros 3 (some .int) : Cond) ∈ tg_ := tg_in (List.mem_of_getElem? (i := 130) rfl) rfl
theorem tw_124 : (.methodLink RJ7 308 yJ6_numberOfLeadingZeros : Cond) ∈ tg_ := tg_in (List.mem_of_getElem? (i := 131) (by decide +kernel)) rfl
theorem tw_125 : (.static yJ6_numberOfLeadingZeros : Cond) ∈ tg_ := tg_in (List.mem_of_getElem? (i := 132) (by decide +kernel)) rfl
theorem tw_126 : (.code yJ6_numberOfLeadingZeros cJ6_numberOfLeadingZeros 2 (some .int) : Cond) ∈ tg_ := tg_in (List.mem_of_getElem? (i := 133) rfl) rfl
theorem tw_127 : (.methodLink RL 32 yX2_join : Cond) ∈ tg_ := tg_in (List.mem_of_getElem? (i := 134) (by decide +kernel)) rfl
theorem tw_128 : (.instanceMethod yX2_join : Cond) ∈ tg_ := tg_in (List.mem_of_getElem? (i := 135) (by decide +kernel)) rfl
theorem tw_129 : (.selects RX2 yX2_join yX2_join : Cond) ∈ tg_ := tg_in (List.mem_of_getElem? (i := 136) (by decide +kernel)) rfl
theorem tw_130 : (.code yX2_join cX2_join 4 (some .int) : Cond) ∈ tg_ := tg_in (List.mem_of_getElem? (i := 137) rfl) rfl
theorem tw_131 : (.methodLink RX2 58 yX0_combine : Cond) ∈ tg_ := tg_in (List.mem_of_getElem? (i := 138) (by decide +kernel)) rfl
theorem tw_132 : (.instanceMethod yX0_combine : Cond) ∈ tg_ := tg_in (List.mem_of_getElem? (i := 139) (by decide +kernel)) rfl
theorem tw_133 : (.selects RX0 yX0_combine yX0_combine : Cond) ∈ tg_ := tg_in (List.mem_of_getElem? (i := 140) (by decide +kernel)) rfl
theorem tw_134 : (.code yX0_combine cX0_combine 4 none : Cond) ∈ tg_ := tg_in (List.mem_of_getElem? (i := 141) rfl) rfl
theorem tw_135 : (.methodLink RX0 44 yX0_combined : Cond) ∈ tg_ := tg_in (List.mem_of_getElem? (i := 142) (by decide +kernel)) rfl
theorem tw_136 : (.static yX0_combined : Cond) ∈ tg_ := tg_in (List.mem_of_getElem? (i := 143) (by decide +kernel)) rfl
theorem tw_137 : (.code yX0_combined cX0_combined 5 (some .long) : Cond) ∈ tg_ := tg_in (List.mem_of_getElem? (i := 144) rfl) rfl
theorem tw_138 : (.methodLink RL 36 yX2_cut : Cond) ∈ tg_ := tg_in (List.mem_of_getElem? (i := 145) (by decide +kernel)) rfl
theorem tw_139 : (.instanceMethod yX2_cut : Cond) ∈ tg_ := tg_in (List.mem_of_getElem? (i := 146) (by decide +kernel)) rfl
theorem tw_140 : (.selects RX2 yX2_cut yX2_cut : Cond) ∈ tg_ := tg_in (List.mem_of_getElem? (i := 147) (by decide +kernel)) rfl
theorem tw_141 : (.code yX2_cut cX2_cut 5 (some .int) : Cond) ∈ tg_ := tg_in (List.mem_of_getElem? (i := 148) rfl) rfl
theorem tw_142 : (.methodLink RX2 62 yX0_takePiece : Cond) ∈ tg_ := tg_in (List.mem_of_getElem? (i := 149) (by decide +kernel)) rfl
theorem tw_143 : (.instanceMethod yX0_takePiece : Cond) ∈ tg_ := tg_in (List.mem_of_getElem? (i := 150) (by decide +kernel)) rfl
theorem tw_144 : (.selects RX0 yX0_takePiece yX0_takePiece : Cond) ∈ tg_ := tg_in (List.mem_of_getElem? (i := 151) (by decide +kernel)) rfl
theorem tw_145 : (.code yX0_takePiece cX0_takePiece 5 none : Cond) ∈ tg_ := tg_in (List.mem_of_getElem? (i := 152) rfl) rfl
theorem tw_146 : (.methodLink RX0 47 yX0_bitsFrom : Cond) ∈ tg_ := tg_in (List.mem_of_getElem? (i := 153) (by decide +kernel)) rfl
theorem tn_147 : (.privateMethod yX0_bitsFrom : Cond) ∈ lw_tbl := List.mem_of_getElem? (i := 154) (by decide +kernel)
theorem tw_148 : (.instanceMethod yX0_bitsFrom : Cond) ∈ tg_ := tg_in (List.mem_of_getElem? (i := 155) (by decide +kernel)) rfl
theorem tw_149 : (.code yX0_bitsFrom cX0_bitsFrom 4 (some .long) : Cond) ∈ tg_ := tg_in (List.mem_of_getElem? (i := 156) rfl) rfl
theorem tw_150 : (.methodLink RL 40 yX2_copy : Cond) ∈ tg_ := tg_in (List.mem_of_getElem? (i := 157) (by decide +kernel)) rfl
theorem tw_151 : (.instanceMethod yX2_copy : Cond) ∈ tg_ := tg_in (List.mem_of_getElem? (i := 158) (by decide +kernel)) rfl
theorem tw_152 : (.selects RX2 yX2_copy yX2_copy : Cond) ∈ tg_ := tg_in (List.mem_of_getElem? (i := 159) (by decide +kernel)) rfl
theorem tw_153 : (.code yX2_copy cX2_copy 3 (some .int) : Cond) ∈ tg_ := tg_in (List.mem_of_getElem? (i := 160) rfl) rfl
theorem tw_154 : (.methodLink RL 44 yX2_look : Cond) ∈ tg_ := tg_in (List.mem_of_getElem? (i := 161) (by decide +kernel)) rfl
theorem tw_155 : (.instanceMethod yX2_look : Cond) ∈ tg_ := tg_in (List.mem_of_getElem? (i := 162) (by decide +kernel)) rfl
theorem tw_156 : (.selects RX2 yX2_look yX2_look : Cond) ∈ tg_ := tg_in (List.mem_of_getElem? (i := 163) (by decide +kernel)) rfl
theorem tw_157 : (.code yX2_look cX2_look 3 (some .int) : Cond) ∈ tg_ := tg_in (List.mem_of_getElem? (i := 164) rfl) rfl
theorem tw_158 : (.methodLink RX2 66 yX0_end : Cond) ∈ tg_ := tg_in (List.mem_of_getElem? (i := 165) (by decide +kernel)) rfl
theorem tw_159 : (.instanceMethod yX0_end : Cond) ∈ tg_ := tg_in (List.mem_of_getElem? (i := 166) (by decide +kernel)) rfl
theorem tw_160 : (.selects RX0 yX0_end yX0_end : Cond) ∈ tg_ := tg_in (List.mem_of_getElem? (i := 167) (by decide +kernel)) rfl
theorem tw_161 : (.code yX0_end cX0_end 1 (some .int) : Cond) ∈ tg_ := tg_in (List.mem_of_getElem? (i := 168) rfl) rfl
theorem tw_162 : (.methodLink RX0 25 yX0_lastUpTo : Cond) ∈ tg_ := tg_in (List.mem_of_getElem? (i := 169) (by decide +kernel)) rfl
theorem tw_163 : (.methodLink RL 48 yX2_meet : Cond) ∈ tg_ := tg_in (List.mem_of_getElem? (i := 170) (by decide +kernel)) rfl
theorem tw_164 : (.instanceMethod yX2_meet : Cond) ∈ tg_ := tg_in (List.mem_of_getElem? (i := 171) (by decide +kernel)) rfl
theorem tw_165 : (.selects RX2 yX2_meet yX2_meet : Cond) ∈ tg_ := tg_in (List.mem_of_getElem? (i := 172) (by decide +kernel)) rfl
theorem tw_166 : (.code yX2_meet cX2_meet 4 (some .int) : Cond) ∈ tg_ := tg_in (List.mem_of_getElem? (i := 173) rfl) rfl
theorem tw_167 : (.methodLink RX2 69 yX0_sharesOne : Cond) ∈ tg_ := tg_in (List.mem_of_getElem? (i := 174) (by decide +kernel)) rfl
theorem tw_168 : (.instanceMethod yX0_sharesOne : Cond) ∈ tg_ := tg_in (List.mem_of_getElem? (i := 175) (by decide +kernel)) rfl
theorem tw_169 : (.selects RX0 yX0_sharesOne yX0_sharesOne : Cond) ∈ tg_ := tg_in (List.mem_of_getElem? (i := 176) (by decide +kernel)) rfl
theorem tw_170 : (.code yX0_sharesOne cX0_sharesOne 3 (some .boolean) : Cond) ∈ tg_ := tg_in (List.mem_of_getElem? (i := 177) rfl) rfl
theorem tw_171 : (.methodLink RX2 73 yX0_isSame : Cond) ∈ tg_ := tg_in (List.mem_of_getElem? (i := 178) (by decide +kernel)) rfl
theorem tw_172 : (.instanceMethod yX0_isSame : Cond) ∈ tg_ := tg_in (List.mem_of_getElem? (i := 179) (by decide +kernel)) rfl
theorem tw_173 : (.selects RX0 yX0_isSame yX0_isSame : Cond) ∈ tg_ := tg_in (List.mem_of_getElem? (i := 180) (by decide +kernel)) rfl
theorem tw_174 : (.code yX0_isSame cX0_isSame 3 (some .boolean) : Cond) ∈ tg_ := tg_in (List.mem_of_getElem? (i := 181) rfl) rfl
theorem tw_175 : (.methodLink RL 52 yX2_word : Cond) ∈ tg_ := tg_in (List.mem_of_getElem? (i := 182) (by decide +kernel)) rfl
theorem tw_176 : (.instanceMethod yX2_word : Cond) ∈ tg_ := tg_in (List.mem_of_getElem? (i := 183) (by decide +kernel)) rfl
theorem tw_177 : (.selects RX2 yX2_word yX2_word : Cond) ∈ tg_ := tg_in (List.mem_of_getElem? (i := 184) (by decide +kernel)) rfl
theorem tw_178 : (.code yX2_word cX2_word 3 (some .long) : Cond) ∈ tg_ := tg_in (List.mem_of_getElem? (i := 185) rfl) rfl
theorem tw_179 : (.constantLong RX2 76 4611686018427387904 : Cond) ∈ tg_ := tg_in (List.mem_of_getElem? (i := 186) (by decide +kernel)) rfl
theorem tw_180 : (.methodLink RX2 78 yX0_wordAt : Cond) ∈ tg_ := tg_in (List.mem_of_getElem? (i := 187) (by decide +kernel)) rfl
theorem tw_181 : (.methodLink RL 59 yX2_load : Cond) ∈ tg_ := tg_in (List.mem_of_getElem? (i := 188) (by decide +kernel)) rfl
theorem tw_182 : (.instanceMethod yX2_load : Cond) ∈ tg_ := tg_in (List.mem_of_getElem? (i := 189) (by decide +kernel)) rfl
theorem tw_183 : (.selects RX2 yX2_load yX2_load : Cond) ∈ tg_ := tg_in (List.mem_of_getElem? (i := 190) (by decide +kernel)) rfl
theorem tw_184 : (.code yX2_load cX2_load 8 (some .int) : Cond) ∈ tg_ := tg_in (List.mem_of_getElem? (i := 191) rfl) rfl
theorem tw_185 : (.methodLink RX2 82 yX0_takeWords : Cond) ∈ tg_ := tg_in (List.mem_of_getElem? (i := 192) (by decide +kernel)) rfl
theorem tw_186 : (.instanceMethod yX0_takeWords : Cond) ∈ tg_ := tg_in (List.mem_of_getElem? (i := 193) (by decide +kernel)) rfl
theorem tw_187 : (.selects RX0 yX0_takeWords yX0_takeWords : Cond) ∈ tg_ := tg_in (List.mem_of_getElem? (i := 194) (by decide +kernel)) rfl
theorem tw_188 : (.code yX0_takeWords cX0_takeWords 8 none : Cond) ∈ tg_ := tg_in (List.mem_of_getElem? (i := 195) rfl) rfl
theorem tw_189 : (.methodLink RL 64 yX2_walk : Cond) ∈ tg_ := tg_in (List.mem_of_getElem? (i := 196) (by decide +kernel)) rfl
theorem tw_190 : (.instanceMethod yX2_walk : Cond) ∈ tg_ := tg_in (List.mem_of_getElem? (i := 197) (by decide +kernel)) rfl
theorem tw_191 : (.selects RX2 yX2_walk yX2_walk : Cond) ∈ tg_ := tg_in (List.mem_of_getElem? (i := 198) (by decide +kernel)) rfl
theorem tw_192 : (.code yX2_walk cX2_walk 2 (some .long) : Cond) ∈ tg_ := tg_in (List.mem_of_getElem? (i := 199) rfl) rfl
theorem tw_193 : (.methodLink RX2 86 yX0_rankedSum : Cond) ∈ tg_ := tg_in (List.mem_of_getElem? (i := 200) (by decide +kernel)) rfl
theorem tw_194 : (.instanceMethod yX0_rankedSum : Cond) ∈ tg_ := tg_in (List.mem_of_getElem? (i := 201) (by decide +kernel)) rfl
theorem tw_195 : (.selects RX0 yX0_rankedSum yX0_rankedSum : Cond) ∈ tg_ := tg_in (List.mem_of_getElem? (i := 202) (by decide +kernel)) rfl
theorem tw_196 : (.code yX0_rankedSum cX0_rankedSum 9 (some .long) : Cond) ∈ tg_ := tg_in (List.mem_of_getElem? (i := 203) rfl) rfl
theorem tw_197 : (.methodLink RL 69 yX2_clear : Cond) ∈ tg_ := tg_in (List.mem_of_getElem? (i := 204) (by decide +kernel)) rfl
theorem tw_198 : (.instanceMethod yX2_clear : Cond) ∈ tg_ := tg_in (List.mem_of_getElem? (i := 205) (by decide +kernel)) rfl
theorem tw_199 : (.selects RX2 yX2_clear yX2_clear : Cond) ∈ tg_ := tg_in (List.mem_of_getElem? (i := 206) (by decide +kernel)) rfl
theorem tw_200 : (.code yX2_clear cX2_clear 3 (some .int) : Cond) ∈ tg_ := tg_in (List.mem_of_getElem? (i := 207) rfl) rfl
theorem tw_201 : (.methodLink RL 74 yX2_text : Cond) ∈ tg_ := tg_in (List.mem_of_getElem? (i := 208) (by decide +kernel)) rfl
theorem tw_202 : (.instanceMethod yX2_text : Cond) ∈ tg_ := tg_in (List.mem_of_getElem? (i := 209) (by decide +kernel)) rfl
theorem tw_203 : (.selects RX2 yX2_text yX2_text : Cond) ∈ tg_ := tg_in (List.mem_of_getElem? (i := 210) (by decide +kernel)) rfl
theorem tw_204 : (.code yX2_text cX2_text 2 (some .int) : Cond) ∈ tg_ := tg_in (List.mem_of_getElem? (i := 211) rfl) rfl
theorem tw_205 : (.methodLink RX2 90 yX1_write : Cond) ∈ tg_ := tg_in (List.mem_of_getElem? (i := 212) (by decide +kernel)) rfl
theorem tw_206 : (.instanceMethod yX1_write : Cond) ∈ tg_ := tg_in (List.mem_of_getElem? (i := 213) (by decide +kernel)) rfl
theorem tw_207 : (.selects RX1 yX1_write yX1_write : Cond) ∈ tg_ := tg_in (List.mem_of_getElem? (i := 214) (by decide +kernel)) rfl
theorem tw_208 : (.code yX1_write cX1_write 3 none : Cond) ∈ tg_ := tg_in (List.mem_of_getElem? (i := 215) rfl) rfl
theorem tw_209 : (.methodLink RX1 19 yX1_add : Cond) ∈ tg_ := tg_in (List.mem_of_getElem? (i := 216) (by decide +kernel)) rfl
theorem tn_210 : (.privateMethod yX1_add : Cond) ∈ lw_tbl := List.mem_of_getElem? (i := 217) (by decide +kernel)
theorem tw_211 : (.instanceMethod yX1_add : Cond) ∈ tg_ := tg_in (List.mem_of_getElem? (i := 218) (by decide +kernel)) rfl
theorem tw_212 : (.code yX1_add cX1_add 2 none : Cond) ∈ tg_ := tg_in (List.mem_of_getElem? (i := 219) rfl) rfl
theorem tw_213 : (.methodLink RX1 23 yX0_bit : Cond) ∈ tg_ := tg_in (List.mem_of_getElem? (i := 220) (by decide +kernel)) rfl
theorem tw_214 : (.methodLink RX1 29 yX1_addPlace : Cond) ∈ tg_ := tg_in (List.mem_of_getElem? (i := 221) (by decide +kernel)) rfl
theorem tn_215 : (.privateMethod yX1_addPlace : Cond) ∈ lw_tbl := List.mem_of_getElem? (i := 222) (by decide +kernel)
theorem tw_216 : (.instanceMethod yX1_addPlace : Cond) ∈ tg_ := tg_in (List.mem_of_getElem? (i := 223) (by decide +kernel)) rfl
theorem tw_217 : (.code yX1_addPlace cX1_addPlace 2 none : Cond) ∈ tg_ := tg_in (List.mem_of_getElem? (i := 224) rfl) rfl
theorem tw_218 : (.methodLink RX1 33 yX1_addDigit : Cond) ∈ tg_ := tg_in (List.mem_of_getElem? (i := 225) (by decide +kernel)) rfl
theorem tn_219 : (.privateMethod yX1_addDigit : Cond) ∈ lw_tbl := List.mem_of_getElem? (i := 226) (by decide +kernel)
theorem tw_220 : (.instanceMethod yX1_addDigit : Cond) ∈ tg_ := tg_in (List.mem_of_getElem? (i := 227) (by decide +kernel)) rfl
theorem tw_221 : (.code yX1_addDigit cX1_addDigit 2 none : Cond) ∈ tg_ := tg_in (List.mem_of_getElem? (i := 228) rfl) rfl
theorem tw_222 : (.methodLink RX2 94 yX1_length : Cond) ∈ tg_ := tg_in (List.mem_of_getElem? (i := 229) (by decide +kernel)) rfl
theorem tw_223 : (.instanceMethod yX1_length : Cond) ∈ tg_ := tg_in (List.mem_of_getElem? (i := 230) (by decide +kernel)) rfl
theorem tw_224 : (.selects RX1 yX1_length yX1_length : Cond) ∈ tg_ := tg_in (List.mem_of_getElem? (i := 231) (by decide +kernel)) rfl
theorem tw_225 : (.code yX1_length cX1_length 1 (some .int) : Cond) ∈ tg_ := tg_in (List.mem_of_getElem? (i := 232) rfl) rfl
theorem tw_226 : (.methodLink RL 78 yX2_octet : Cond) ∈ tg_ := tg_in (List.mem_of_getElem? (i := 233) (by decide +kernel)) rfl
theorem tw_227 : (.instanceMethod yX2_octet : Cond) ∈ tg_ := tg_in (List.mem_of_getElem? (i := 234) (by decide +kernel)) rfl
theorem tw_228 : (.selects RX2 yX2_octet yX2_octet : Cond) ∈ tg_ := tg_in (List.mem_of_getElem? (i := 235) (by decide +kernel)) rfl
theorem tw_229 : (.code yX2_octet cX2_octet 2 (some .int) : Cond) ∈ tg_ := tg_in (List.mem_of_getElem? (i := 236) rfl) rfl
theorem tw_230 : (.methodLink RX2 97 yX1_codeAt : Cond) ∈ tg_ := tg_in (List.mem_of_getElem? (i := 237) (by decide +kernel)) rfl
theorem tw_231 : (.instanceMethod yX1_codeAt : Cond) ∈ tg_ := tg_in (List.mem_of_getElem? (i := 238) (by decide +kernel)) rfl
theorem tw_232 : (.selects RX1 yX1_codeAt yX1_codeAt : Cond) ∈ tg_ := tg_in (List.mem_of_getElem? (i := 239) (by decide +kernel)) rfl
theorem tw_233 : (.code yX1_codeAt cX1_codeAt 2 (some .int) : Cond) ∈ tg_ := tg_in (List.mem_of_getElem? (i := 240) rfl) rfl
theorem tw_234 : (.classLink RL 10 RX3 : Cond) ∈ tg_ := tg_in (List.mem_of_getElem? (i := 241) (by decide +kernel)) rfl
theorem tw_235 : (.instantiable RX3 4 : Cond) ∈ tg_ := tg_in (List.mem_of_getElem? (i := 242) (by decide +kernel)) rfl
theorem tw_236 : (.methodLink RL 12 yX3_init : Cond) ∈ tg_ := tg_in (List.mem_of_getElem? (i := 243) (by decide +kernel)) rfl
theorem tw_237 : (.instanceMethod yX3_init : Cond) ∈ tg_ := tg_in (List.mem_of_getElem? (i := 244) (by decide +kernel)) rfl
theorem tw_238 : (.code yX3_init cX3_init 1 none : Cond) ∈ tg_ := tg_in (List.mem_of_getElem? (i := 245) rfl) rfl
theorem tw_239 : (.methodLink RX3 1 objectInit : Cond) ∈ tg_ := tg_in (List.mem_of_getElem? (i := 246) (by decide +kernel)) rfl
theorem tw_240 : (.classLink RX3 9 "[[Z" : Cond) ∈ tg_ := tg_in (List.mem_of_getElem? (i := 247) (by decide +kernel)) rfl
theorem tn_241 : (.arrayOver (.array .boolean) : Cond) ∈ lw_tbl := List.mem_of_getElem? (i := 248) (by decide +kernel)
theorem tw_242 : (.fieldLink RX3 11 "BitBoardModel" "rows" "[[Z" : Cond) ∈ tg_ := tg_in (List.mem_of_getElem? (i := 249) (by decide +kernel)) rfl
theorem tw_243 : (.fieldLink RX3 14 "BitBoardModel" "piece" "[Z" : Cond) ∈ tg_ := tg_in (List.mem_of_getElem? (i := 250) (by decide +kernel)) rfl
theorem tw_244 : (.fieldLink RX3 18 "BitBoardModel" "signs" "[B" : Cond) ∈ tg_ := tg_in (List.mem_of_getElem? (i := 251) (by decide +kernel)) rfl
theorem tw_245 : (.fieldLink RX3 48 "BitBoardModel" "signCount" "I" : Cond) ∈ tg_ := tg_in (List.mem_of_getElem? (i := 252) (by decide +kernel)) rfl
theorem tw_246 : (.laysFinal RX3 "BitBoardModel" "rows" "[[Z" : Cond) ∈ tg_ := tg_in (List.mem_of_getElem? (i := 253) (by decide +kernel)) rfl
theorem tw_248 : (.laysFinal RX3 "BitBoardModel" "piece" "[Z" : Cond) ∈ tg_ := tg_in (List.mem_of_getElem? (i := 255) (by decide +kernel)) rfl
theorem tw_250 : (.laysFinal RX3 "BitBoardModel" "signs" "[B" : Cond) ∈ tg_ := tg_in (List.mem_of_getElem? (i := 257) (by decide +kernel)) rfl
theorem tw_252 : (.lays RX3 "BitBoardModel" "signCount" "I" : Cond) ∈ tg_ := tg_in (List.mem_of_getElem? (i := 259) (by decide +kernel)) rfl
theorem tw_255 : (.arrayClass .boolean : Cond) ∈ tg_ := tg_in (List.mem_of_getElem? (i := 262) (by decide +kernel)) rfl
theorem tw_256 : (.arrayClass .byte : Cond) ∈ tg_ := tg_in (List.mem_of_getElem? (i := 263) (by decide +kernel)) rfl
theorem tw_257 : (.methodLink RL 17 yX3_set : Cond) ∈ tg_ := tg_in (List.mem_of_getElem? (i := 264) (by decide +kernel)) rfl
theorem tw_258 : (.instanceMethod yX3_set : Cond) ∈ tg_ := tg_in (List.mem_of_getElem? (i := 265) (by decide +kernel)) rfl
theorem tw_259 : (.selects RX3 yX3_set yX3_set : Cond) ∈ tg_ := tg_in (List.mem_of_getElem? (i := 266) (by decide +kernel)) rfl
theorem tw_260 : (.code yX3_set cX3_set 5 (some .int) : Cond) ∈ tg_ := tg_in (List.mem_of_getElem? (i := 267) rfl) rfl
theorem tw_261 : (.methodLink RX3 22 yX3_isRow : Cond) ∈ tg_ := tg_in (List.mem_of_getElem? (i := 268) (by decide +kernel)) rfl
theorem tw_262 : (.static yX3_isRow : Cond) ∈ tg_ := tg_in (List.mem_of_getElem? (i := 269) (by decide +kernel)) rfl
theorem tw_263 : (.code yX3_isRow cX3_isRow 1 (some .boolean) : Cond) ∈ tg_ := tg_in (List.mem_of_getElem? (i := 270) rfl) rfl
theorem tw_264 : (.methodLink RX3 26 yX3_isPlace : Cond) ∈ tg_ := tg_in (List.mem_of_getElem? (i := 271) (by decide +kernel)) rfl
theorem tw_265 : (.static yX3_isPlace : Cond) ∈ tg_ := tg_in (List.mem_of_getElem? (i := 272) (by decide +kernel)) rfl
theorem tw_266 : (.code yX3_isPlace cX3_isPlace 1 (some .boolean) : Cond) ∈ tg_ := tg_in (List.mem_of_getElem? (i := 273) rfl) rfl
theorem tw_267 : (.methodLink RX3 29 yX3_changed : Cond) ∈ tg_ := tg_in (List.mem_of_getElem? (i := 274) (by decide +kernel)) rfl
theorem tw_268 : (.static yX3_changed : Cond) ∈ tg_ := tg_in (List.mem_of_getElem? (i := 275) (by decide +kernel)) rfl
theorem tw_269 : (.code yX3_changed cX3_changed 2 (some .boolean) : Cond) ∈ tg_ := tg_in (List.mem_of_getElem? (i := 276) rfl) rfl
theorem tw_270 : (.methodLink RL 22 yX3_piece : Cond) ∈ tg_ := tg_in (List.mem_of_getElem? (i := 277) (by decide +kernel)) rfl
theorem tw_271 : (.instanceMethod yX3_piece : Cond) ∈ tg_ := tg_in (List.mem_of_getElem? (i := 278) (by decide +kernel)) rfl
theorem tw_272 : (.selects RX3 yX3_piece yX3_piece : Cond) ∈ tg_ := tg_in (List.mem_of_getElem? (i := 279) (by decide +kernel)) rfl
theorem tw_273 : (.code yX3_piece cX3_piece 6 (some .int) : Cond) ∈ tg_ := tg_in (List.mem_of_getElem? (i := 280) rfl) rfl
theorem tw_274 : (.methodLink RX3 33 yX3_isPiece : Cond) ∈ tg_ := tg_in (List.mem_of_getElem? (i := 281) (by decide +kernel)) rfl
theorem tw_275 : (.static yX3_isPiece : Cond) ∈ tg_ := tg_in (List.mem_of_getElem? (i := 282) (by decide +kernel)) rfl
theorem tw_276 : (.code yX3_isPiece cX3_isPiece 2 (some .boolean) : Cond) ∈ tg_ := tg_in (List.mem_of_getElem? (i := 283) rfl) rfl
theorem tw_277 : (.methodLink RX3 37 yX3_ones : Cond) ∈ tg_ := tg_in (List.mem_of_getElem? (i := 284) (by decide +kernel)) rfl
theorem tn_278 : (.privateMethod yX3_ones : Cond) ∈ lw_tbl := List.mem_of_getElem? (i := 285) (by decide +kernel)
theorem tw_279 : (.instanceMethod yX3_ones : Cond) ∈ tg_ := tg_in (List.mem_of_getElem? (i := 286) (by decide +kernel)) rfl
theorem tw_280 : (.code yX3_ones cX3_ones 4 (some .int) : Cond) ∈ tg_ := tg_in (List.mem_of_getElem? (i := 287) rfl) rfl
theorem tw_281 : (.methodLink RL 27 yX3_get : Cond) ∈ tg_ := tg_in (List.mem_of_getElem? (i := 288) (by decide +kernel)) rfl
theorem tw_282 : (.instanceMethod yX3_get : Cond) ∈ tg_ := tg_in (List.mem_of_getElem? (i := 289) (by decide +kernel)) rfl
theorem tw_283 : (.selects RX3 yX3_get yX3_get : Cond) ∈ tg_ := tg_in (List.mem_of_getElem? (i := 290) (by decide +kernel)) rfl
theorem tw_284 : (.code yX3_get cX3_get 3 (some .int) : Cond) ∈ tg_ := tg_in (List.mem_of_getElem? (i := 291) rfl) rfl
theorem tw_285 : (.methodLink RL 31 yX3_next : Cond) ∈ tg_ := tg_in (List.mem_of_getElem? (i := 292) (by decide +kernel)) rfl
theorem tw_286 : (.instanceMethod yX3_next : Cond) ∈ tg_ := tg_in (List.mem_of_getElem? (i := 293) (by decide +kernel)) rfl
theorem tw_287 : (.selects RX3 yX3_next yX3_next : Cond) ∈ tg_ := tg_in (List.mem_of_getElem? (i := 294) (by decide +kernel)) rfl
theorem tw_288 : (.code yX3_next cX3_next 6 (some .int) : Cond) ∈ tg_ := tg_in (List.mem_of_getElem? (i := 295) rfl) rfl
theorem tw_289 : (.methodLink RL 35 yX3_join : Cond) ∈ tg_ := tg_in (List.mem_of_getElem? (i := 296) (by decide +kernel)) rfl
theorem tw_290 : (.instanceMethod yX3_join : Cond) ∈ tg_ := tg_in (List.mem_of_getElem? (i := 297) (by decide +kernel)) rfl
theorem tw_291 : (.selects RX3 yX3_join yX3_join : Cond) ∈ tg_ := tg_in (List.mem_of_getElem? (i := 298) (by decide +kernel)) rfl
theorem tw_292 : (.code yX3_join cX3_join 7 (some .int) : Cond) ∈ tg_ := tg_in (List.mem_of_getElem? (i := 299) rfl) rfl
theorem tw_293 : (.methodLink RL 39 yX3_cut : Cond) ∈ tg_ := tg_in (List.mem_of_getElem? (i := 300) (by decide +kernel)) rfl
theorem tw_294 : (.instanceMethod yX3_cut : Cond) ∈ tg_ := tg_in (List.mem_of_getElem? (i := 301) (by decide +kernel)) rfl
theorem tw_295 : (.selects RX3 yX3_cut yX3_cut : Cond) ∈ tg_ := tg_in (List.mem_of_getElem? (i := 302) (by decide +kernel)) rfl
theorem tw_296 : (.code yX3_cut cX3_cut 6 (some .int) : Cond) ∈ tg_ := tg_in (List.mem_of_getElem? (i := 303) rfl) rfl
theorem tw_297 : (.methodLink RL 43 yX3_copy : Cond) ∈ tg_ := tg_in (List.mem_of_getElem? (i := 304) (by decide +kernel)) rfl
theorem tw_298 : (.instanceMethod yX3_copy : Cond) ∈ tg_ := tg_in (List.mem_of_getElem? (i := 305) (by decide +kernel)) rfl
theorem tw_299 : (.selects RX3 yX3_copy yX3_copy : Cond) ∈ tg_ := tg_in (List.mem_of_getElem? (i := 306) (by decide +kernel)) rfl
theorem tw_300 : (.code yX3_copy cX3_copy 4 (some .int) : Cond) ∈ tg_ := tg_in (List.mem_of_getElem? (i := 307) rfl) rfl
theorem tw_301 : (.methodLink RL 47 yX3_look : Cond) ∈ tg_ := tg_in (List.mem_of_getElem? (i := 308) (by decide +kernel)) rfl
theorem tw_302 : (.instanceMethod yX3_look : Cond) ∈ tg_ := tg_in (List.mem_of_getElem? (i := 309) (by decide +kernel)) rfl
theorem tw_303 : (.selects RX3 yX3_look yX3_look : Cond) ∈ tg_ := tg_in (List.mem_of_getElem? (i := 310) (by decide +kernel)) rfl
theorem tw_304 : (.code yX3_look cX3_look 3 (some .int) : Cond) ∈ tg_ := tg_in (List.mem_of_getElem? (i := 311) rfl) rfl
theorem tw_305 : (.methodLink RX3 41 yX3_end : Cond) ∈ tg_ := tg_in (List.mem_of_getElem? (i := 312) (by decide +kernel)) rfl
theorem tn_306 : (.privateMethod yX3_end : Cond) ∈ lw_tbl := List.mem_of_getElem? (i := 313) (by decide +kernel)
theorem tw_307 : (.instanceMethod yX3_end : Cond) ∈ tg_ := tg_in (List.mem_of_getElem? (i := 314) (by decide +kernel)) rfl
theorem tw_308 : (.code yX3_end cX3_end 3 (some .int) : Cond) ∈ tg_ := tg_in (List.mem_of_getElem? (i := 315) rfl) rfl
theorem tw_309 : (.methodLink RL 51 yX3_meet : Cond) ∈ tg_ := tg_in (List.mem_of_getElem? (i := 316) (by decide +kernel)) rfl
theorem tw_310 : (.instanceMethod yX3_meet : Cond) ∈ tg_ := tg_in (List.mem_of_getElem? (i := 317) (by decide +kernel)) rfl
theorem tw_311 : (.selects RX3 yX3_meet yX3_meet : Cond) ∈ tg_ := tg_in (List.mem_of_getElem? (i := 318) (by decide +kernel)) rfl
theorem tw_312 : (.code yX3_meet cX3_meet 7 (some .int) : Cond) ∈ tg_ := tg_in (List.mem_of_getElem? (i := 319) rfl) rfl
theorem tw_313 : (.methodLink RL 56 yX3_word : Cond) ∈ tg_ := tg_in (List.mem_of_getElem? (i := 320) (by decide +kernel)) rfl
theorem tw_314 : (.instanceMethod yX3_word : Cond) ∈ tg_ := tg_in (List.mem_of_getElem? (i := 321) (by decide +kernel)) rfl
theorem tw_315 : (.selects RX3 yX3_word yX3_word : Cond) ∈ tg_ := tg_in (List.mem_of_getElem? (i := 322) (by decide +kernel)) rfl
theorem tw_316 : (.code yX3_word cX3_word 6 (some .long) : Cond) ∈ tg_ := tg_in (List.mem_of_getElem? (i := 323) rfl) rfl
theorem tw_317 : (.constantLong RX3 44 4611686018427387904 : Cond) ∈ tg_ := tg_in (List.mem_of_getElem? (i := 324) (by decide +kernel)) rfl
theorem tw_318 : (.constantLong RX3 46 2 : Cond) ∈ tg_ := tg_in (List.mem_of_getElem? (i := 325) (by decide +kernel)) rfl
theorem tw_319 : (.methodLink RL 63 yX3_load : Cond) ∈ tg_ := tg_in (List.mem_of_getElem? (i := 326) (by decide +kernel)) rfl
theorem tw_320 : (.instanceMethod yX3_load : Cond) ∈ tg_ := tg_in (List.mem_of_getElem? (i := 327) (by decide +kernel)) rfl
theorem tw_321 : (.selects RX3 yX3_load yX3_load : Cond) ∈ tg_ := tg_in (List.mem_of_getElem? (i := 328) (by decide +kernel)) rfl
theorem tw_322 : (.code yX3_load cX3_load 9 (some .int) : Cond) ∈ tg_ := tg_in (List.mem_of_getElem? (i := 329) rfl) rfl
theorem tw_323 : (.methodLink RL 68 yX3_walk : Cond) ∈ tg_ := tg_in (List.mem_of_getElem? (i := 330) (by decide +kernel)) rfl
theorem tw_324 : (.instanceMethod yX3_walk : Cond) ∈ tg_ := tg_in (List.mem_of_getElem? (i := 331) (by decide +kernel)) rfl
theorem tw_325 : (.selects RX3 yX3_walk yX3_walk : Cond) ∈ tg_ := tg_in (List.mem_of_getElem? (i := 332) (by decide +kernel)) rfl
theorem tw_326 : (.code yX3_walk cX3_walk 6 (some .long) : Cond) ∈ tg_ := tg_in (List.mem_of_getElem? (i := 333) rfl) rfl
theorem tw_327 : (.methodLink RL 73 yX3_clear : Cond) ∈ tg_ := tg_in (List.mem_of_getElem? (i := 334) (by decide +kernel)) rfl
theorem tw_328 : (.instanceMethod yX3_clear : Cond) ∈ tg_ := tg_in (List.mem_of_getElem? (i := 335) (by decide +kernel)) rfl
theorem tw_329 : (.selects RX3 yX3_clear yX3_clear : Cond) ∈ tg_ := tg_in (List.mem_of_getElem? (i := 336) (by decide +kernel)) rfl
theorem tw_330 : (.code yX3_clear cX3_clear 4 (some .int) : Cond) ∈ tg_ := tg_in (List.mem_of_getElem? (i := 337) rfl) rfl
theorem tw_331 : (.methodLink RL 77 yX3_text : Cond) ∈ tg_ := tg_in (List.mem_of_getElem? (i := 338) (by decide +kernel)) rfl
theorem tw_332 : (.instanceMethod yX3_text : Cond) ∈ tg_ := tg_in (List.mem_of_getElem? (i := 339) (by decide +kernel)) rfl
theorem tw_333 : (.selects RX3 yX3_text yX3_text : Cond) ∈ tg_ := tg_in (List.mem_of_getElem? (i := 340) (by decide +kernel)) rfl
theorem tw_334 : (.code yX3_text cX3_text 4 (some .int) : Cond) ∈ tg_ := tg_in (List.mem_of_getElem? (i := 341) rfl) rfl
theorem tw_335 : (.methodLink RX3 52 yX3_write : Cond) ∈ tg_ := tg_in (List.mem_of_getElem? (i := 342) (by decide +kernel)) rfl
theorem tn_336 : (.privateMethod yX3_write : Cond) ∈ lw_tbl := List.mem_of_getElem? (i := 343) (by decide +kernel)
theorem tw_337 : (.instanceMethod yX3_write : Cond) ∈ tg_ := tg_in (List.mem_of_getElem? (i := 344) (by decide +kernel)) rfl
theorem tw_338 : (.code yX3_write cX3_write 2 none : Cond) ∈ tg_ := tg_in (List.mem_of_getElem? (i := 345) rfl) rfl
theorem tw_339 : (.methodLink RL 81 yX3_octet : Cond) ∈ tg_ := tg_in (List.mem_of_getElem? (i := 346) (by decide +kernel)) rfl
theorem tw_340 : (.instanceMethod yX3_octet : Cond) ∈ tg_ := tg_in (List.mem_of_getElem? (i := 347) (by decide +kernel)) rfl
theorem tw_341 : (.selects RX3 yX3_octet yX3_octet : Cond) ∈ tg_ := tg_in (List.mem_of_getElem? (i := 348) (by decide +kernel)) rfl
theorem tw_342 : (.code yX3_octet cX3_octet 2 (some .int) : Cond) ∈ tg_ := tg_in (List.mem_of_getElem? (i := 349) rfl) rfl
theorem tw_343 : (.constantLong RL 57 4294967295 : Cond) ∈ tg_ := tg_in (List.mem_of_getElem? (i := 350) (by decide +kernel)) rfl
theorem ts_0 : (.selects RX0 yX0_bitsFrom yX0_bitsFrom : Cond) ∈ tg_ := tg_in (List.mem_of_getElem? (i := 0) (by decide +kernel)) rfl
theorem ts_1 : (.selects RX1 yX1_add yX1_add : Cond) ∈ tg_ := tg_in (List.mem_of_getElem? (i := 1) (by decide +kernel)) rfl
theorem ts_2 : (.selects RX1 yX1_addPlace yX1_addPlace : Cond) ∈ tg_ := tg_in (List.mem_of_getElem? (i := 2) (by decide +kernel)) rfl
theorem ts_3 : (.selects RX1 yX1_addDigit yX1_addDigit : Cond) ∈ tg_ := tg_in (List.mem_of_getElem? (i := 3) (by decide +kernel)) rfl
theorem ts_4 : (.selects RX3 yX3_ones yX3_ones : Cond) ∈ tg_ := tg_in (List.mem_of_getElem? (i := 4) (by decide +kernel)) rfl
theorem ts_5 : (.selects RX3 yX3_end yX3_end : Cond) ∈ tg_ := tg_in (List.mem_of_getElem? (i := 5) (by decide +kernel)) rfl
theorem ts_6 : (.selects RX3 yX3_write yX3_write : Cond) ∈ tg_ := tg_in (List.mem_of_getElem? (i := 6) (by decide +kernel)) rfl
theorem igX0 : ∀ w ∈ u_ws RX0 TX0 1, w ∈ tg_ := fun w h => tg_in (inX0 w h) (List.all_eq_true.mp (by decide +kernel : (u_ws RX0 TX0 1).all goodWord = true) w h)
theorem igX1 : ∀ w ∈ u_ws RX1 TX1 2, w ∈ tg_ := fun w h => tg_in (inX1 w h) (List.all_eq_true.mp (by decide +kernel : (u_ws RX1 TX1 2).all goodWord = true) w h)
theorem igX2 : ∀ w ∈ u_ws RX2 TX2 2, w ∈ tg_ := fun w h => tg_in (inX2 w h) (List.all_eq_true.mp (by decide +kernel : (u_ws RX2 TX2 2).all goodWord = true) w h)
theorem igX3 : ∀ w ∈ u_ws RX3 TX3 4, w ∈ tg_ := fun w h => tg_in (inX3 w h) (List.all_eq_true.mp (by decide +kernel : (u_ws RX3 TX3 4).all goodWord = true) w h)
def wX2_init : List Cond := (.code yX2_init cX2_init 2 none : Cond) :: tg_
def wX0_init : List Cond := (.code yX0_init cX0_init 1 none : Cond) :: tg_
def wX1_init : List Cond := (.code yX1_init cX1_init 1 none : Cond) :: tg_
def wX2_set : List Cond := (.code yX2_set cX2_set 5 (some .int) : Cond) :: tg_
def wX2_isRow : List Cond := (.code yX2_isRow cX2_isRow 1 (some .boolean) : Cond) :: tg_
def wX2_isChange : List Cond := (.code yX2_isChange cX2_isChange 1 (some .boolean) : Cond) :: tg_
def wX2_isPlace : List Cond := (.code yX2_isPlace cX2_isPlace 1 (some .boolean) : Cond) :: tg_
def wX0_bit : List Cond := (.code yX0_bit cX0_bit 2 (some .int) : Cond) :: tg_
def wX0_wordAt : List Cond := (.code yX0_wordAt cX0_wordAt 2 (some .long) : Cond) :: tg_
def wX0_change : List Cond := (.code yX0_change cX0_change 7 none : Cond) :: tg_
def wX0_lowBits : List Cond := (.code yX0_lowBits cX0_lowBits 1 (some .long) : Cond) :: tg_
def wX0_changed : List Cond := (.code yX0_changed cX0_changed 5 (some .long) : Cond) :: tg_
def wX2_piece : List Cond := (.code yX2_piece cX2_piece 5 (some .int) : Cond) :: tg_
def wX2_isPiece : List Cond := (.code yX2_isPiece cX2_isPiece 2 (some .boolean) : Cond) :: tg_
def wX0_ones : List Cond := (.code yX0_ones cX0_ones 3 (some .int) : Cond) :: tg_
def wJ7_bitCount : List Cond := (.code yJ7_bitCount cJ7_bitCount 2 (some .int) : Cond) :: tg_
def wX2_get : List Cond := (.code yX2_get cX2_get 3 (some .int) : Cond) :: tg_
def wX2_next : List Cond := (.code yX2_next cX2_next 4 (some .int) : Cond) :: tg_
def wX0_firstFrom : List Cond := (.code yX0_firstFrom cX0_firstFrom 7 (some .int) : Cond) :: tg_
def wJ7_numberOfTrailingZeros : List Cond := (.code yJ7_numberOfTrailingZeros cJ7_numberOfTrailingZeros 3 (some .int) : Cond) :: tg_
def wJ6_numberOfTrailingZeros : List Cond := (.code yJ6_numberOfTrailingZeros cJ6_numberOfTrailingZeros 2 (some .int) : Cond) :: tg_
def wX0_lastUpTo : List Cond := (.code yX0_lastUpTo cX0_lastUpTo 7 (some .int) : Cond) :: tg_
def wJ7_numberOfLeadingZeros : List Cond := (.code yJ7_numberOfLeadingZeros cJ7_numberOfLeadingZeros 3 (some .int) : Cond) :: tg_
def wJ6_numberOfLeadingZeros : List Cond := (.code yJ6_numberOfLeadingZeros cJ6_numberOfLeadingZeros 2 (some .int) : Cond) :: tg_
def wX2_join : List Cond := (.code yX2_join cX2_join 4 (some .int) : Cond) :: tg_
def wX0_combine : List Cond := (.code yX0_combine cX0_combine 4 none : Cond) :: tg_
def wX0_combined : List Cond := (.code yX0_combined cX0_combined 5 (some .long) : Cond) :: tg_
def wX2_cut : List Cond := (.code yX2_cut cX2_cut 5 (some .int) : Cond) :: tg_
def wX0_takePiece : List Cond := (.code yX0_takePiece cX0_takePiece 5 none : Cond) :: tg_
def wX0_bitsFrom : List Cond := (.code yX0_bitsFrom cX0_bitsFrom 4 (some .long) : Cond) :: tg_
def wX2_copy : List Cond := (.code yX2_copy cX2_copy 3 (some .int) : Cond) :: tg_
def wX2_look : List Cond := (.code yX2_look cX2_look 3 (some .int) : Cond) :: tg_
def wX0_end : List Cond := (.code yX0_end cX0_end 1 (some .int) : Cond) :: tg_
def wX2_meet : List Cond := (.code yX2_meet cX2_meet 4 (some .int) : Cond) :: tg_
def wX0_sharesOne : List Cond := (.code yX0_sharesOne cX0_sharesOne 3 (some .boolean) : Cond) :: tg_
def wX0_isSame : List Cond := (.code yX0_isSame cX0_isSame 3 (some .boolean) : Cond) :: tg_
def wX2_word : List Cond := (.code yX2_word cX2_word 3 (some .long) : Cond) :: tg_
def wX2_load : List Cond := (.code yX2_load cX2_load 8 (some .int) : Cond) :: tg_
def wX0_takeWords : List Cond := (.code yX0_takeWords cX0_takeWords 8 none : Cond) :: tg_
def wX2_walk : List Cond := (.code yX2_walk cX2_walk 2 (some .long) : Cond) :: tg_
def wX0_rankedSum : List Cond := (.code yX0_rankedSum cX0_rankedSum 9 (some .long) : Cond) :: tg_
def wX2_clear : List Cond := (.code yX2_clear cX2_clear 3 (some .int) : Cond) :: tg_
def wX2_text : List Cond := (.code yX2_text cX2_text 2 (some .int) : Cond) :: tg_
def wX1_write : List Cond := (.code yX1_write cX1_write 3 none : Cond) :: tg_
def wX1_add : List Cond := (.code yX1_add cX1_add 2 none : Cond) :: tg_
def wX1_addPlace : List Cond := (.code yX1_addPlace cX1_addPlace 2 none : Cond) :: tg_
def wX1_addDigit : List Cond := (.code yX1_addDigit cX1_addDigit 2 none : Cond) :: tg_
def wX1_length : List Cond := (.code yX1_length cX1_length 1 (some .int) : Cond) :: tg_
def wX2_octet : List Cond := (.code yX2_octet cX2_octet 2 (some .int) : Cond) :: tg_
def wX1_codeAt : List Cond := (.code yX1_codeAt cX1_codeAt 2 (some .int) : Cond) :: tg_
def wX3_init : List Cond := (.code yX3_init cX3_init 1 none : Cond) :: tg_
def wX3_set : List Cond := (.code yX3_set cX3_set 5 (some .int) : Cond) :: tg_
def wX3_isRow : List Cond := (.code yX3_isRow cX3_isRow 1 (some .boolean) : Cond) :: tg_
def wX3_isPlace : List Cond := (.code yX3_isPlace cX3_isPlace 1 (some .boolean) : Cond) :: tg_
def wX3_changed : List Cond := (.code yX3_changed cX3_changed 2 (some .boolean) : Cond) :: tg_
def wX3_piece : List Cond := (.code yX3_piece cX3_piece 6 (some .int) : Cond) :: tg_
def wX3_isPiece : List Cond := (.code yX3_isPiece cX3_isPiece 2 (some .boolean) : Cond) :: tg_
def wX3_ones : List Cond := (.code yX3_ones cX3_ones 4 (some .int) : Cond) :: tg_
def wX3_get : List Cond := (.code yX3_get cX3_get 3 (some .int) : Cond) :: tg_
def wX3_next : List Cond := (.code yX3_next cX3_next 6 (some .int) : Cond) :: tg_
def wX3_join : List Cond := (.code yX3_join cX3_join 7 (some .int) : Cond) :: tg_
def wX3_cut : List Cond := (.code yX3_cut cX3_cut 6 (some .int) : Cond) :: tg_
def wX3_copy : List Cond := (.code yX3_copy cX3_copy 4 (some .int) : Cond) :: tg_
def wX3_look : List Cond := (.code yX3_look cX3_look 3 (some .int) : Cond) :: tg_
def wX3_end : List Cond := (.code yX3_end cX3_end 3 (some .int) : Cond) :: tg_
def wX3_meet : List Cond := (.code yX3_meet cX3_meet 7 (some .int) : Cond) :: tg_
def wX3_word : List Cond := (.code yX3_word cX3_word 6 (some .long) : Cond) :: tg_
def wX3_load : List Cond := (.code yX3_load cX3_load 9 (some .int) : Cond) :: tg_
def wX3_walk : List Cond := (.code yX3_walk cX3_walk 6 (some .long) : Cond) :: tg_
def wX3_clear : List Cond := (.code yX3_clear cX3_clear 4 (some .int) : Cond) :: tg_
def wX3_text : List Cond := (.code yX3_text cX3_text 4 (some .int) : Cond) :: tg_
def wX3_write : List Cond := (.code yX3_write cX3_write 2 none : Cond) :: tg_
def wX3_octet : List Cond := (.code yX3_octet cX3_octet 2 (some .int) : Cond) :: tg_
