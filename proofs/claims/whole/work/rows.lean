section
-- ===== PART A: goes FIRST, ahead of the names: the tables' words, and 'selects' of the private methods out of them =====
/-- a private method of a class that the tables say can be made, by its rows of tables_1 -/
def lw_okq (q : MethodName × Nat) : Prop := (q.1.cls ≠ "java/lang/invoke/MethodHandle" ∧ q.1.cls ≠ "java/lang/invoke/VarHandle") ∧ Cond.instantiable q.1.cls q.2 ∈ tables_1 ∧ Cond.privateMethod q.1 ∈ tables_1 ∧ Cond.instanceMethod q.1 ∈ tables_1
theorem lw_p0 : lw_okq (⟨"TextLoom", "putDigits", "(IJ)I"⟩, 4) := ⟨⟨by decide +kernel, by decide +kernel⟩, List.mem_of_getElem? (i := 10) (by decide +kernel), List.mem_of_getElem? (i := 50) (by decide +kernel), List.mem_of_getElem? (i := 51) (by decide +kernel)⟩
theorem lw_p1 : lw_okq (⟨"TextLoom", "hasRoom", "(I)Z"⟩, 4) := ⟨⟨by decide +kernel, by decide +kernel⟩, List.mem_of_getElem? (i := 10) (by decide +kernel), List.mem_of_getElem? (i := 58) (by decide +kernel), List.mem_of_getElem? (i := 59) (by decide +kernel)⟩
theorem lw_p2 : lw_okq (⟨"TextLoom", "makeGap", "(III)V"⟩, 4) := ⟨⟨by decide +kernel, by decide +kernel⟩, List.mem_of_getElem? (i := 10) (by decide +kernel), List.mem_of_getElem? (i := 62) (by decide +kernel), List.mem_of_getElem? (i := 63) (by decide +kernel)⟩
theorem lw_p3 : lw_okq (⟨"TextLoom", "putWord", "(ILjava/lang/String;)I"⟩, 4) := ⟨⟨by decide +kernel, by decide +kernel⟩, List.mem_of_getElem? (i := 10) (by decide +kernel), List.mem_of_getElem? (i := 74) (by decide +kernel), List.mem_of_getElem? (i := 75) (by decide +kernel)⟩
theorem lw_p4 : lw_okq (⟨"TextLoom", "putScrap", "(II)I"⟩, 4) := ⟨⟨by decide +kernel, by decide +kernel⟩, List.mem_of_getElem? (i := 10) (by decide +kernel), List.mem_of_getElem? (i := 126) (by decide +kernel), List.mem_of_getElem? (i := 127) (by decide +kernel)⟩
theorem lw_p5 : lw_okq (⟨"TextLoom", "putSign", "(II)I"⟩, 4) := ⟨⟨by decide +kernel, by decide +kernel⟩, List.mem_of_getElem? (i := 10) (by decide +kernel), List.mem_of_getElem? (i := 130) (by decide +kernel), List.mem_of_getElem? (i := 131) (by decide +kernel)⟩
theorem lw_p6 : lw_okq (⟨"TextLoom", "isPlaceOrEnd", "(I)Z"⟩, 4) := ⟨⟨by decide +kernel, by decide +kernel⟩, List.mem_of_getElem? (i := 10) (by decide +kernel), List.mem_of_getElem? (i := 139) (by decide +kernel), List.mem_of_getElem? (i := 140) (by decide +kernel)⟩
theorem lw_p7 : lw_okq (⟨"TextLoom", "isPlace", "(I)Z"⟩, 4) := ⟨⟨by decide +kernel, by decide +kernel⟩, List.mem_of_getElem? (i := 10) (by decide +kernel), List.mem_of_getElem? (i := 158) (by decide +kernel), List.mem_of_getElem? (i := 159) (by decide +kernel)⟩
theorem lw_p8 : lw_okq (⟨"TextLoom", "findBackward", "(I)I"⟩, 4) := ⟨⟨by decide +kernel, by decide +kernel⟩, List.mem_of_getElem? (i := 10) (by decide +kernel), List.mem_of_getElem? (i := 178) (by decide +kernel), List.mem_of_getElem? (i := 179) (by decide +kernel)⟩
theorem lw_p9 : lw_okq (⟨"TextLoom", "scrapStandsAt", "(I)Z"⟩, 4) := ⟨⟨by decide +kernel, by decide +kernel⟩, List.mem_of_getElem? (i := 10) (by decide +kernel), List.mem_of_getElem? (i := 182) (by decide +kernel), List.mem_of_getElem? (i := 183) (by decide +kernel)⟩
theorem lw_p10 : lw_okq (⟨"TextLoom", "findForward", "(I)I"⟩, 4) := ⟨⟨by decide +kernel, by decide +kernel⟩, List.mem_of_getElem? (i := 10) (by decide +kernel), List.mem_of_getElem? (i := 186) (by decide +kernel), List.mem_of_getElem? (i := 187) (by decide +kernel)⟩
theorem lw_p11 : lw_okq (⟨"TextLoom", "sumOfText", "()I"⟩, 4) := ⟨⟨by decide +kernel, by decide +kernel⟩, List.mem_of_getElem? (i := 10) (by decide +kernel), List.mem_of_getElem? (i := 205) (by decide +kernel), List.mem_of_getElem? (i := 206) (by decide +kernel)⟩
theorem lw_p12 : lw_okq (⟨"TextLoomModel", "digits", "(J)V"⟩, 6) := ⟨⟨by decide +kernel, by decide +kernel⟩, List.mem_of_getElem? (i := 220) (by decide +kernel), List.mem_of_getElem? (i := 271) (by decide +kernel), List.mem_of_getElem? (i := 272) (by decide +kernel)⟩
theorem lw_p13 : lw_okq (⟨"TextLoomModel", "putDigits", "(I)I"⟩, 6) := ⟨⟨by decide +kernel, by decide +kernel⟩, List.mem_of_getElem? (i := 220) (by decide +kernel), List.mem_of_getElem? (i := 276) (by decide +kernel), List.mem_of_getElem? (i := 277) (by decide +kernel)⟩
theorem lw_p14 : lw_okq (⟨"TextLoomModel", "full", "(I)Z"⟩, 6) := ⟨⟨by decide +kernel, by decide +kernel⟩, List.mem_of_getElem? (i := 220) (by decide +kernel), List.mem_of_getElem? (i := 280) (by decide +kernel), List.mem_of_getElem? (i := 281) (by decide +kernel)⟩
theorem lw_p15 : lw_okq (⟨"TextLoomModel", "open", "(II)V"⟩, 6) := ⟨⟨by decide +kernel, by decide +kernel⟩, List.mem_of_getElem? (i := 220) (by decide +kernel), List.mem_of_getElem? (i := 284) (by decide +kernel), List.mem_of_getElem? (i := 285) (by decide +kernel)⟩
def lw_privs_1 : List (MethodName × Nat) := [(⟨"TextLoom", "putDigits", "(IJ)I"⟩, 4), (⟨"TextLoom", "hasRoom", "(I)Z"⟩, 4), (⟨"TextLoom", "makeGap", "(III)V"⟩, 4), (⟨"TextLoom", "putWord", "(ILjava/lang/String;)I"⟩, 4), (⟨"TextLoom", "putScrap", "(II)I"⟩, 4), (⟨"TextLoom", "putSign", "(II)I"⟩, 4), (⟨"TextLoom", "isPlaceOrEnd", "(I)Z"⟩, 4), (⟨"TextLoom", "isPlace", "(I)Z"⟩, 4), (⟨"TextLoom", "findBackward", "(I)I"⟩, 4), (⟨"TextLoom", "scrapStandsAt", "(I)Z"⟩, 4), (⟨"TextLoom", "findForward", "(I)I"⟩, 4), (⟨"TextLoom", "sumOfText", "()I"⟩, 4), (⟨"TextLoomModel", "digits", "(J)V"⟩, 6), (⟨"TextLoomModel", "putDigits", "(I)I"⟩, 6), (⟨"TextLoomModel", "full", "(I)Z"⟩, 6), (⟨"TextLoomModel", "open", "(II)V"⟩, 6)]
theorem lw_r1 : ∀ q ∈ lw_privs_1, lw_okq q := List.forall_mem_cons.mpr ⟨lw_p0, List.forall_mem_cons.mpr ⟨lw_p1, List.forall_mem_cons.mpr ⟨lw_p2, List.forall_mem_cons.mpr ⟨lw_p3, List.forall_mem_cons.mpr ⟨lw_p4, List.forall_mem_cons.mpr ⟨lw_p5, List.forall_mem_cons.mpr ⟨lw_p6, List.forall_mem_cons.mpr ⟨lw_p7, List.forall_mem_cons.mpr ⟨lw_p8, List.forall_mem_cons.mpr ⟨lw_p9, List.forall_mem_cons.mpr ⟨lw_p10, List.forall_mem_cons.mpr ⟨lw_p11, List.forall_mem_cons.mpr ⟨lw_p12, List.forall_mem_cons.mpr ⟨lw_p13, List.forall_mem_cons.mpr ⟨lw_p14, List.forall_mem_cons.mpr ⟨lw_p15, fun _ h => absurd h List.not_mem_nil⟩⟩⟩⟩⟩⟩⟩⟩⟩⟩⟩⟩⟩⟩⟩⟩
theorem lw_p16 : lw_okq (⟨"TextLoomModel", "letters", "(Z)I"⟩, 6) := ⟨⟨by decide +kernel, by decide +kernel⟩, List.mem_of_getElem? (i := 220) (by decide +kernel), List.mem_of_getElem? (i := 288) (by decide +kernel), List.mem_of_getElem? (i := 289) (by decide +kernel)⟩
theorem lw_p17 : lw_okq (⟨"TextLoomModel", "putScrap", "(I)I"⟩, 6) := ⟨⟨by decide +kernel, by decide +kernel⟩, List.mem_of_getElem? (i := 220) (by decide +kernel), List.mem_of_getElem? (i := 296) (by decide +kernel), List.mem_of_getElem? (i := 297) (by decide +kernel)⟩
theorem lw_p18 : lw_okq (⟨"TextLoomModel", "close", "(II)V"⟩, 6) := ⟨⟨by decide +kernel, by decide +kernel⟩, List.mem_of_getElem? (i := 220) (by decide +kernel), List.mem_of_getElem? (i := 308) (by decide +kernel), List.mem_of_getElem? (i := 309) (by decide +kernel)⟩
theorem lw_p19 : lw_okq (⟨"TextLoomModel", "stands", "(I)Z"⟩, 6) := ⟨⟨by decide +kernel, by decide +kernel⟩, List.mem_of_getElem? (i := 220) (by decide +kernel), List.mem_of_getElem? (i := 340) (by decide +kernel), List.mem_of_getElem? (i := 341) (by decide +kernel)⟩
def lw_privs_2 : List (MethodName × Nat) := [(⟨"TextLoomModel", "letters", "(Z)I"⟩, 6), (⟨"TextLoomModel", "putScrap", "(I)I"⟩, 6), (⟨"TextLoomModel", "close", "(II)V"⟩, 6), (⟨"TextLoomModel", "stands", "(I)Z"⟩, 6)]
theorem lw_r2 : ∀ q ∈ lw_privs_2, lw_okq q := List.forall_mem_cons.mpr ⟨lw_p16, List.forall_mem_cons.mpr ⟨lw_p17, List.forall_mem_cons.mpr ⟨lw_p18, List.forall_mem_cons.mpr ⟨lw_p19, fun _ h => absurd h List.not_mem_nil⟩⟩⟩⟩
def lw_privs : List (MethodName × Nat) := lw_privs_1 ++ (lw_privs_2)
def lw_tbl : List Cond := k2_sels lw_privs ++ tables_1
theorem lw_privs_ok : ∀ q ∈ lw_privs, lw_okq q := by
  show ∀ q ∈ lw_privs_1 ++ (lw_privs_2), lw_okq q
  exact List.forall_mem_append.mpr ⟨lw_r1, lw_r2⟩
end
section
/-! names and decode rows of the class and of the JDK: printed by the claim; of the reference: by names.py -/
def RX0 : String := "TextLoom"
def TX0 : u_T := fun k => match k with
  | 0 => ("TextLoom", "textSigns", "[I", true)
  | 1 => ("TextLoom", "scrapSigns", "[I", true)
  | 2 => ("TextLoom", "textCount", "I", false)
  | _ => ("TextLoom", "scrapCount", "I", false)
def tyX0 : Nat → FieldType := fun k => match k with
  | 0 => .array .int
  | 1 => .array .int
  | 2 => .int
  | _ => .int
theorem nmX0 : ∀ a, a < 4 → ∀ b, b < 4 → a ≠ b → (TX0 a).2.1 ≠ (TX0 b).2.1 := by decide +kernel
theorem tyX0_ok : ∀ k, k < 4 → parseFieldDescriptor (TX0 k).2.2.1 = some (tyX0 k) := by decide +kernel
abbrev cX0_init : ByteArray := prog_1_method_1_code
def yX0_init : MethodName := ⟨RX0, "<init>", "()V"⟩
abbrev cX0_note : ByteArray := prog_1_method_2_code
def yX0_note : MethodName := ⟨RX0, "note", "(I)I"⟩
abbrev cX0_drop : ByteArray := prog_1_method_3_code
def yX0_drop : MethodName := ⟨RX0, "drop", "()I"⟩
abbrev cX0_add : ByteArray := prog_1_method_4_code
def yX0_add : MethodName := ⟨RX0, "add", "(IJ)I"⟩
abbrev cX0_insert : ByteArray := prog_1_method_5_code
def yX0_insert : MethodName := ⟨RX0, "insert", "(IZJ)I"⟩
abbrev cX0_cut : ByteArray := prog_1_method_6_code
def yX0_cut : MethodName := ⟨RX0, "cut", "(II)I"⟩
abbrev cX0_swap : ByteArray := prog_1_method_7_code
def yX0_swap : MethodName := ⟨RX0, "swap", "(II)I"⟩
abbrev cX0_take : ByteArray := prog_1_method_8_code
def yX0_take : MethodName := ⟨RX0, "take", "(I)I"⟩
abbrev cX0_set : ByteArray := prog_1_method_9_code
def yX0_set : MethodName := ⟨RX0, "set", "(II)I"⟩
abbrev cX0_get : ByteArray := prog_1_method_10_code
def yX0_get : MethodName := ⟨RX0, "get", "(I)I"⟩
abbrev cX0_turn : ByteArray := prog_1_method_11_code
def yX0_turn : MethodName := ⟨RX0, "turn", "()I"⟩
abbrev cX0_find : ByteArray := prog_1_method_12_code
def yX0_find : MethodName := ⟨RX0, "find", "(IZ)I"⟩
abbrev cX0_length : ByteArray := prog_1_method_13_code
def yX0_length : MethodName := ⟨RX0, "length", "(I)I"⟩
abbrev cX0_lift : ByteArray := prog_1_method_14_code
def yX0_lift : MethodName := ⟨RX0, "lift", "(II)I"⟩
abbrev cX0_look : ByteArray := prog_1_method_15_code
def yX0_look : MethodName := ⟨RX0, "look", "(I)I"⟩
abbrev cX0_scrap : ByteArray := prog_1_method_16_code
def yX0_scrap : MethodName := ⟨RX0, "scrap", "(I)I"⟩
abbrev cX0_compare : ByteArray := prog_1_method_17_code
def yX0_compare : MethodName := ⟨RX0, "compare", "()I"⟩
abbrev cX0_order : ByteArray := prog_1_method_18_code
def yX0_order : MethodName := ⟨RX0, "order", "(II)I"⟩
abbrev cX0_isSign : ByteArray := prog_1_method_19_code
def yX0_isSign : MethodName := ⟨RX0, "isSign", "(J)Z"⟩
abbrev cX0_isPlace : ByteArray := prog_1_method_20_code
def yX0_isPlace : MethodName := ⟨RX0, "isPlace", "(I)Z"⟩
abbrev cX0_isPlaceOrEnd : ByteArray := prog_1_method_21_code
def yX0_isPlaceOrEnd : MethodName := ⟨RX0, "isPlaceOrEnd", "(I)Z"⟩
abbrev cX0_hasRoom : ByteArray := prog_1_method_22_code
def yX0_hasRoom : MethodName := ⟨RX0, "hasRoom", "(I)Z"⟩
abbrev cX0_makeGap : ByteArray := prog_1_method_23_code
def yX0_makeGap : MethodName := ⟨RX0, "makeGap", "(III)V"⟩
abbrev cX0_putScrap : ByteArray := prog_1_method_24_code
def yX0_putScrap : MethodName := ⟨RX0, "putScrap", "(II)I"⟩
abbrev cX0_putSign : ByteArray := prog_1_method_25_code
def yX0_putSign : MethodName := ⟨RX0, "putSign", "(II)I"⟩
abbrev cX0_putWord : ByteArray := prog_1_method_26_code
def yX0_putWord : MethodName := ⟨RX0, "putWord", "(ILjava/lang/String;)I"⟩
abbrev cX0_putDigits : ByteArray := prog_1_method_27_code
def yX0_putDigits : MethodName := ⟨RX0, "putDigits", "(IJ)I"⟩
abbrev cX0_countDigits : ByteArray := prog_1_method_28_code
def yX0_countDigits : MethodName := ⟨RX0, "countDigits", "(J)I"⟩
abbrev cX0_findForward : ByteArray := prog_1_method_29_code
def yX0_findForward : MethodName := ⟨RX0, "findForward", "(I)I"⟩
abbrev cX0_findBackward : ByteArray := prog_1_method_30_code
def yX0_findBackward : MethodName := ⟨RX0, "findBackward", "(I)I"⟩
abbrev cX0_scrapStandsAt : ByteArray := prog_1_method_31_code
def yX0_scrapStandsAt : MethodName := ⟨RX0, "scrapStandsAt", "(I)Z"⟩
abbrev cX0_sumOfText : ByteArray := prog_1_method_32_code
def yX0_sumOfText : MethodName := ⟨RX0, "sumOfText", "()I"⟩
def RJ9 : String := "java/lang/Math"
abbrev cJ9_abs_0f7a4 : ByteArray := prog_4_method_59_code
def yJ9_abs_0f7a4 : MethodName := ⟨RJ9, "abs", "(I)I"⟩
abbrev cJ9_max_7cf53 : ByteArray := prog_4_method_65_code
def yJ9_max_7cf53 : MethodName := ⟨RJ9, "max", "(II)I"⟩
abbrev cJ9_min_7cf53 : ByteArray := prog_4_method_69_code
def yJ9_min_7cf53 : MethodName := ⟨RJ9, "min", "(II)I"⟩
def RJ0 : String := "java/lang/String"
abbrev cJ0_length_8abf5 : ByteArray := prog_5_method_54_code
def yJ0_length_8abf5 : MethodName := ⟨RJ0, "length", "()I"⟩
abbrev cJ0_charAt_5068e : ByteArray := prog_5_method_56_code
def yJ0_charAt_5068e : MethodName := ⟨RJ0, "charAt", "(I)C"⟩
abbrev cJ0_coder_7d493 : ByteArray := prog_5_method_152_code
def yJ0_coder_7d493 : MethodName := ⟨RJ0, "coder", "()B"⟩
abbrev cJ0_isLatin1_aae02 : ByteArray := prog_5_method_154_code
def yJ0_isLatin1_aae02 : MethodName := ⟨RJ0, "isLatin1", "()Z"⟩
abbrev cJ0_checkIndex_df160 : ByteArray := prog_5_method_155_code
def yJ0_checkIndex_df160 : MethodName := ⟨RJ0, "checkIndex", "(II)V"⟩
def RJ1 : String := "java/lang/StringLatin1"
abbrev cJ1_charAt_3b067 : ByteArray := prog_6_method_2_code
def yJ1_charAt_3b067 : MethodName := ⟨RJ1, "charAt", "([BI)C"⟩
def RJ2 : String := "java/lang/StringUTF16"
abbrev cJ2_getChar_3b067 : ByteArray := prog_7_method_5_code
def yJ2_getChar_3b067 : MethodName := ⟨RJ2, "getChar", "([BI)C"⟩
abbrev cJ2_length_9d52b : ByteArray := prog_7_method_6_code
def yJ2_length_9d52b : MethodName := ⟨RJ2, "length", "([B)I"⟩
abbrev cJ2_charAt_3b067 : ByteArray := prog_7_method_83_code
def yJ2_charAt_3b067 : MethodName := ⟨RJ2, "charAt", "([BI)C"⟩
abbrev cJ2_checkIndex_2214a : ByteArray := prog_7_method_91_code
def yJ2_checkIndex_2214a : MethodName := ⟨RJ2, "checkIndex", "(I[B)V"⟩
def RJ10 : String := "java/lang/System"
def RJ3 : String := "jdk/internal/util/Preconditions"
abbrev cJ3_checkIndex_8e157 : ByteArray := prog_9_method_11_code
def yJ3_checkIndex_8e157 : MethodName := ⟨RJ3, "checkIndex", "(IILjava/util/function/BiFunction;)I"⟩
def RL : String := "TextLoomLaw"
abbrev cL_law : ByteArray := code
def yL_law : MethodName := ⟨RL, "law", "([I)Z"⟩
def RX1 : String := "TextLoomModel"
def TX1 : u_T := fun k => match k with
  | 0 => ("TextLoomModel", "text", "[I", true)
  | 1 => ("TextLoomModel", "scrap", "[I", true)
  | 2 => ("TextLoomModel", "digits", "[I", true)
  | 3 => ("TextLoomModel", "many", "I", false)
  | 4 => ("TextLoomModel", "notes", "I", false)
  | _ => ("TextLoomModel", "digitMany", "I", false)
def tyX1 : Nat → FieldType := fun k => match k with
  | 0 => .array .int
  | 1 => .array .int
  | 2 => .array .int
  | 3 => .int
  | 4 => .int
  | _ => .int
theorem nmX1 : ∀ a, a < 6 → ∀ b, b < 6 → a ≠ b → (TX1 a).2.1 ≠ (TX1 b).2.1 := by decide +kernel
theorem tyX1_ok : ∀ k, k < 6 → parseFieldDescriptor (TX1 k).2.2.1 = some (tyX1 k) := by decide +kernel
abbrev cX1_init : ByteArray := prog_3_method_1_code
def yX1_init : MethodName := ⟨RX1, "<init>", "()V"⟩
abbrev cX1_note : ByteArray := prog_3_method_7_code
def yX1_note : MethodName := ⟨RX1, "note", "(I)I"⟩
abbrev cX1_isSign : ByteArray := prog_3_method_2_code
def yX1_isSign : MethodName := ⟨RX1, "isSign", "(J)Z"⟩
abbrev cX1_drop : ByteArray := prog_3_method_8_code
def yX1_drop : MethodName := ⟨RX1, "drop", "()I"⟩
abbrev cX1_scrap : ByteArray := prog_3_method_9_code
def yX1_scrap : MethodName := ⟨RX1, "scrap", "(I)I"⟩
abbrev cX1_lift : ByteArray := prog_3_method_10_code
def yX1_lift : MethodName := ⟨RX1, "lift", "(II)I"⟩
abbrev cX1_add : ByteArray := prog_3_method_14_code
def yX1_add : MethodName := ⟨RX1, "add", "(IJ)I"⟩
abbrev cX1_digits : ByteArray := prog_3_method_3_code
def yX1_digits : MethodName := ⟨RX1, "digits", "(J)V"⟩
abbrev cX1_putDigits : ByteArray := prog_3_method_11_code
def yX1_putDigits : MethodName := ⟨RX1, "putDigits", "(I)I"⟩
abbrev cX1_full : ByteArray := prog_3_method_6_code
def yX1_full : MethodName := ⟨RX1, "full", "(I)Z"⟩
abbrev cX1_open : ByteArray := prog_3_method_4_code
def yX1_open : MethodName := ⟨RX1, "open", "(II)V"⟩
abbrev cX1_letters : ByteArray := prog_3_method_13_code
def yX1_letters : MethodName := ⟨RX1, "letters", "(Z)I"⟩
abbrev cX1_putScrap : ByteArray := prog_3_method_12_code
def yX1_putScrap : MethodName := ⟨RX1, "putScrap", "(I)I"⟩
abbrev cX1_insert : ByteArray := prog_3_method_15_code
def yX1_insert : MethodName := ⟨RX1, "insert", "(IZJ)I"⟩
abbrev cX1_cut : ByteArray := prog_3_method_16_code
def yX1_cut : MethodName := ⟨RX1, "cut", "(II)I"⟩
abbrev cX1_close : ByteArray := prog_3_method_5_code
def yX1_close : MethodName := ⟨RX1, "close", "(II)V"⟩
abbrev cX1_swap : ByteArray := prog_3_method_17_code
def yX1_swap : MethodName := ⟨RX1, "swap", "(II)I"⟩
abbrev cX1_take : ByteArray := prog_3_method_18_code
def yX1_take : MethodName := ⟨RX1, "take", "(I)I"⟩
abbrev cX1_set : ByteArray := prog_3_method_19_code
def yX1_set : MethodName := ⟨RX1, "set", "(II)I"⟩
abbrev cX1_get : ByteArray := prog_3_method_20_code
def yX1_get : MethodName := ⟨RX1, "get", "(I)I"⟩
abbrev cX1_turn : ByteArray := prog_3_method_21_code
def yX1_turn : MethodName := ⟨RX1, "turn", "()I"⟩
abbrev cX1_length : ByteArray := prog_3_method_22_code
def yX1_length : MethodName := ⟨RX1, "length", "(I)I"⟩
abbrev cX1_find : ByteArray := prog_3_method_24_code
def yX1_find : MethodName := ⟨RX1, "find", "(IZ)I"⟩
abbrev cX1_stands : ByteArray := prog_3_method_23_code
def yX1_stands : MethodName := ⟨RX1, "stands", "(I)Z"⟩
abbrev cX1_look : ByteArray := prog_3_method_25_code
def yX1_look : MethodName := ⟨RX1, "look", "(I)I"⟩
abbrev cX1_compare : ByteArray := prog_3_method_26_code
def yX1_compare : MethodName := ⟨RX1, "compare", "()I"⟩
abbrev vwCl : List vw_C := [(RX0, TX0, 4), (RX1, TX1, 6)]
theorem dX0_init_0 : decode cX0_init 0 = .ok (.aload_n 0, 1) := by decide +kernel
theorem dX0_init_1 : decode cX0_init 1 = .ok (.invokespecial 1, 3) := by decide +kernel
theorem dX0_init_4 : decode cX0_init 4 = .ok (.aload_n 0, 1) := by decide +kernel
theorem dX0_init_5 : decode cX0_init 5 = .ok (.sipush 3000, 3) := by decide +kernel
theorem dX0_init_8 : decode cX0_init 8 = .ok (.newarray .int, 2) := by decide +kernel
theorem dX0_init_10 : decode cX0_init 10 = .ok (.putfield 9, 3) := by decide +kernel
theorem dX0_init_13 : decode cX0_init 13 = .ok (.aload_n 0, 1) := by decide +kernel
theorem dX0_init_14 : decode cX0_init 14 = .ok (.bipush 40, 2) := by decide +kernel
theorem dX0_init_16 : decode cX0_init 16 = .ok (.newarray .int, 2) := by decide +kernel
theorem dX0_init_18 : decode cX0_init 18 = .ok (.putfield 13, 3) := by decide +kernel
theorem dX0_init_21 : decode cX0_init 21 = .ok (.aload_n 0, 1) := by decide +kernel
theorem dX0_init_22 : decode cX0_init 22 = .ok (.iconst 0, 1) := by decide +kernel
theorem dX0_init_23 : decode cX0_init 23 = .ok (.putfield 16, 3) := by decide +kernel
theorem dX0_init_26 : decode cX0_init 26 = .ok (.aload_n 0, 1) := by decide +kernel
theorem dX0_init_27 : decode cX0_init 27 = .ok (.iconst 0, 1) := by decide +kernel
theorem dX0_init_28 : decode cX0_init 28 = .ok (.putfield 20, 3) := by decide +kernel
theorem dX0_init_31 : decode cX0_init 31 = .ok (.return_, 1) := by decide +kernel
theorem dX0_note_0 : decode cX0_note 0 = .ok (.iload_n 1, 1) := by decide +kernel
theorem dX0_note_1 : decode cX0_note 1 = .ok (.i2l, 1) := by decide +kernel
theorem dX0_note_2 : decode cX0_note 2 = .ok (.invokestatic 23, 3) := by decide +kernel
theorem dX0_note_5 : decode cX0_note 5 = .ok (.ifCond .ne 5, 3) := by decide +kernel
theorem dX0_note_8 : decode cX0_note 8 = .ok (.iconst (-1), 1) := by decide +kernel
theorem dX0_note_9 : decode cX0_note 9 = .ok (.ireturn, 1) := by decide +kernel
theorem dX0_note_10 : decode cX0_note 10 = .ok (.aload_n 0, 1) := by decide +kernel
theorem dX0_note_11 : decode cX0_note 11 = .ok (.getfield 20, 3) := by decide +kernel
theorem dX0_note_14 : decode cX0_note 14 = .ok (.bipush 40, 2) := by decide +kernel
theorem dX0_note_16 : decode cX0_note 16 = .ok (.if_icmp .lt 6, 3) := by decide +kernel
theorem dX0_note_19 : decode cX0_note 19 = .ok (.bipush (-3), 2) := by decide +kernel
theorem dX0_note_21 : decode cX0_note 21 = .ok (.ireturn, 1) := by decide +kernel
theorem dX0_note_22 : decode cX0_note 22 = .ok (.aload_n 0, 1) := by decide +kernel
theorem dX0_note_23 : decode cX0_note 23 = .ok (.getfield 13, 3) := by decide +kernel
theorem dX0_note_26 : decode cX0_note 26 = .ok (.aload_n 0, 1) := by decide +kernel
theorem dX0_note_27 : decode cX0_note 27 = .ok (.getfield 20, 3) := by decide +kernel
theorem dX0_note_30 : decode cX0_note 30 = .ok (.iload_n 1, 1) := by decide +kernel
theorem dX0_note_31 : decode cX0_note 31 = .ok (.iastore, 1) := by decide +kernel
theorem dX0_note_32 : decode cX0_note 32 = .ok (.aload_n 0, 1) := by decide +kernel
theorem dX0_note_33 : decode cX0_note 33 = .ok (.dup, 1) := by decide +kernel
theorem dX0_note_34 : decode cX0_note 34 = .ok (.getfield 20, 3) := by decide +kernel
theorem dX0_note_37 : decode cX0_note 37 = .ok (.iconst 1, 1) := by decide +kernel
theorem dX0_note_38 : decode cX0_note 38 = .ok (.iadd, 1) := by decide +kernel
theorem dX0_note_39 : decode cX0_note 39 = .ok (.putfield 20, 3) := by decide +kernel
theorem dX0_note_42 : decode cX0_note 42 = .ok (.aload_n 0, 1) := by decide +kernel
theorem dX0_note_43 : decode cX0_note 43 = .ok (.getfield 20, 3) := by decide +kernel
theorem dX0_note_46 : decode cX0_note 46 = .ok (.ireturn, 1) := by decide +kernel
theorem dX0_drop_0 : decode cX0_drop 0 = .ok (.aload_n 0, 1) := by decide +kernel
theorem dX0_drop_1 : decode cX0_drop 1 = .ok (.getfield 20, 3) := by decide +kernel
theorem dX0_drop_4 : decode cX0_drop 4 = .ok (.istore_n 1, 1) := by decide +kernel
theorem dX0_drop_5 : decode cX0_drop 5 = .ok (.aload_n 0, 1) := by decide +kernel
theorem dX0_drop_6 : decode cX0_drop 6 = .ok (.iconst 0, 1) := by decide +kernel
theorem dX0_drop_7 : decode cX0_drop 7 = .ok (.putfield 20, 3) := by decide +kernel
theorem dX0_drop_10 : decode cX0_drop 10 = .ok (.iload_n 1, 1) := by decide +kernel
theorem dX0_drop_11 : decode cX0_drop 11 = .ok (.ireturn, 1) := by decide +kernel
theorem dX0_add_0 : decode cX0_add 0 = .ok (.iload_n 1, 1) := by decide +kernel
theorem dX0_add_1 : decode cX0_add 1 = .ok (.tableswitch 98 0 3 #[31, 41, 63, 76], 31) := by decide +kernel
theorem dX0_add_32 : decode cX0_add 32 = .ok (.aload_n 0, 1) := by decide +kernel
theorem dX0_add_33 : decode cX0_add 33 = .ok (.aload_n 0, 1) := by decide +kernel
theorem dX0_add_34 : decode cX0_add 34 = .ok (.getfield 16, 3) := by decide +kernel
theorem dX0_add_37 : decode cX0_add 37 = .ok (.lload_n 2, 1) := by decide +kernel
theorem dX0_add_38 : decode cX0_add 38 = .ok (.invokevirtual 27, 3) := by decide +kernel
theorem dX0_add_41 : decode cX0_add 41 = .ok (.ireturn, 1) := by decide +kernel
theorem dX0_add_42 : decode cX0_add 42 = .ok (.aload_n 0, 1) := by decide +kernel
theorem dX0_add_43 : decode cX0_add 43 = .ok (.aload_n 0, 1) := by decide +kernel
theorem dX0_add_44 : decode cX0_add 44 = .ok (.getfield 16, 3) := by decide +kernel
theorem dX0_add_47 : decode cX0_add 47 = .ok (.lload_n 2, 1) := by decide +kernel
theorem dX0_add_48 : decode cX0_add 48 = .ok (.lconst 0, 1) := by decide +kernel
theorem dX0_add_49 : decode cX0_add 49 = .ok (.lcmp, 1) := by decide +kernel
theorem dX0_add_50 : decode cX0_add 50 = .ok (.ifCond .ne 8, 3) := by decide +kernel
theorem dX0_add_53 : decode cX0_add 53 = .ok (.ldc 31, 2) := by decide +kernel
theorem dX0_add_55 : decode cX0_add 55 = .ok (.goto 5, 3) := by decide +kernel
theorem dX0_add_58 : decode cX0_add 58 = .ok (.ldc 33, 2) := by decide +kernel
theorem dX0_add_60 : decode cX0_add 60 = .ok (.invokevirtual 35, 3) := by decide +kernel
theorem dX0_add_63 : decode cX0_add 63 = .ok (.ireturn, 1) := by decide +kernel
theorem dX0_add_64 : decode cX0_add 64 = .ok (.aload_n 0, 1) := by decide +kernel
theorem dX0_add_65 : decode cX0_add 65 = .ok (.aload_n 0, 1) := by decide +kernel
theorem dX0_add_66 : decode cX0_add 66 = .ok (.getfield 16, 3) := by decide +kernel
theorem dX0_add_69 : decode cX0_add 69 = .ok (.aload_n 0, 1) := by decide +kernel
theorem dX0_add_70 : decode cX0_add 70 = .ok (.getfield 16, 3) := by decide +kernel
theorem dX0_add_73 : decode cX0_add 73 = .ok (.invokevirtual 39, 3) := by decide +kernel
theorem dX0_add_76 : decode cX0_add 76 = .ok (.ireturn, 1) := by decide +kernel
theorem dX0_add_77 : decode cX0_add 77 = .ok (.lload_n 2, 1) := by decide +kernel
theorem dX0_add_78 : decode cX0_add 78 = .ok (.invokestatic 23, 3) := by decide +kernel
theorem dX0_add_81 : decode cX0_add 81 = .ok (.ifCond .eq 16, 3) := by decide +kernel
theorem dX0_add_84 : decode cX0_add 84 = .ok (.aload_n 0, 1) := by decide +kernel
theorem dX0_add_85 : decode cX0_add 85 = .ok (.aload_n 0, 1) := by decide +kernel
theorem dX0_add_86 : decode cX0_add 86 = .ok (.getfield 16, 3) := by decide +kernel
theorem dX0_add_89 : decode cX0_add 89 = .ok (.lload_n 2, 1) := by decide +kernel
theorem dX0_add_90 : decode cX0_add 90 = .ok (.l2i, 1) := by decide +kernel
theorem dX0_add_91 : decode cX0_add 91 = .ok (.invokevirtual 43, 3) := by decide +kernel
theorem dX0_add_94 : decode cX0_add 94 = .ok (.goto 4, 3) := by decide +kernel
theorem dX0_add_97 : decode cX0_add 97 = .ok (.iconst (-1), 1) := by decide +kernel
theorem dX0_add_98 : decode cX0_add 98 = .ok (.ireturn, 1) := by decide +kernel
theorem dX0_add_99 : decode cX0_add 99 = .ok (.iconst (-1), 1) := by decide +kernel
theorem dX0_add_100 : decode cX0_add 100 = .ok (.ireturn, 1) := by decide +kernel
theorem dX0_insert_0 : decode cX0_insert 0 = .ok (.aload_n 0, 1) := by decide +kernel
theorem dX0_insert_1 : decode cX0_insert 1 = .ok (.iload_n 1, 1) := by decide +kernel
theorem dX0_insert_2 : decode cX0_insert 2 = .ok (.invokevirtual 46, 3) := by decide +kernel
theorem dX0_insert_5 : decode cX0_insert 5 = .ok (.ifCond .ne 5, 3) := by decide +kernel
theorem dX0_insert_8 : decode cX0_insert 8 = .ok (.iconst (-1), 1) := by decide +kernel
theorem dX0_insert_9 : decode cX0_insert 9 = .ok (.ireturn, 1) := by decide +kernel
theorem dX0_insert_10 : decode cX0_insert 10 = .ok (.iload_n 2, 1) := by decide +kernel
theorem dX0_insert_11 : decode cX0_insert 11 = .ok (.ifCond .eq 12, 3) := by decide +kernel
theorem dX0_insert_14 : decode cX0_insert 14 = .ok (.aload_n 0, 1) := by decide +kernel
theorem dX0_insert_15 : decode cX0_insert 15 = .ok (.iload_n 1, 1) := by decide +kernel
theorem dX0_insert_16 : decode cX0_insert 16 = .ok (.lload_n 3, 1) := by decide +kernel
theorem dX0_insert_17 : decode cX0_insert 17 = .ok (.invokevirtual 27, 3) := by decide +kernel
theorem dX0_insert_20 : decode cX0_insert 20 = .ok (.goto 9, 3) := by decide +kernel
theorem dX0_insert_23 : decode cX0_insert 23 = .ok (.aload_n 0, 1) := by decide +kernel
theorem dX0_insert_24 : decode cX0_insert 24 = .ok (.iload_n 1, 1) := by decide +kernel
theorem dX0_insert_25 : decode cX0_insert 25 = .ok (.iload_n 1, 1) := by decide +kernel
theorem dX0_insert_26 : decode cX0_insert 26 = .ok (.invokevirtual 39, 3) := by decide +kernel
theorem dX0_insert_29 : decode cX0_insert 29 = .ok (.ireturn, 1) := by decide +kernel
theorem dX0_cut_0 : decode cX0_cut 0 = .ok (.aload_n 0, 1) := by decide +kernel
theorem dX0_cut_1 : decode cX0_cut 1 = .ok (.iload_n 1, 1) := by decide +kernel
theorem dX0_cut_2 : decode cX0_cut 2 = .ok (.invokevirtual 46, 3) := by decide +kernel
theorem dX0_cut_5 : decode cX0_cut 5 = .ok (.ifCond .eq 8, 3) := by decide +kernel
theorem dX0_cut_8 : decode cX0_cut 8 = .ok (.iload_n 2, 1) := by decide +kernel
theorem dX0_cut_9 : decode cX0_cut 9 = .ok (.iload_n 1, 1) := by decide +kernel
theorem dX0_cut_10 : decode cX0_cut 10 = .ok (.if_icmp .ge 5, 3) := by decide +kernel
theorem dX0_cut_13 : decode cX0_cut 13 = .ok (.iconst (-1), 1) := by decide +kernel
theorem dX0_cut_14 : decode cX0_cut 14 = .ok (.ireturn, 1) := by decide +kernel
theorem dX0_cut_15 : decode cX0_cut 15 = .ok (.aload_n 0, 1) := by decide +kernel
theorem dX0_cut_16 : decode cX0_cut 16 = .ok (.iload_n 1, 1) := by decide +kernel
theorem dX0_cut_17 : decode cX0_cut 17 = .ok (.iload_n 2, 1) := by decide +kernel
theorem dX0_cut_18 : decode cX0_cut 18 = .ok (.aload_n 0, 1) := by decide +kernel
theorem dX0_cut_19 : decode cX0_cut 19 = .ok (.getfield 16, 3) := by decide +kernel
theorem dX0_cut_22 : decode cX0_cut 22 = .ok (.invokestatic 50, 3) := by decide +kernel
theorem dX0_cut_25 : decode cX0_cut 25 = .ok (.iconst 0, 1) := by decide +kernel
theorem dX0_cut_26 : decode cX0_cut 26 = .ok (.invokevirtual 55, 3) := by decide +kernel
theorem dX0_cut_29 : decode cX0_cut 29 = .ok (.aload_n 0, 1) := by decide +kernel
theorem dX0_cut_30 : decode cX0_cut 30 = .ok (.getfield 16, 3) := by decide +kernel
theorem dX0_cut_33 : decode cX0_cut 33 = .ok (.ireturn, 1) := by decide +kernel
theorem dX0_swap_0 : decode cX0_swap 0 = .ok (.aload_n 0, 1) := by decide +kernel
theorem dX0_swap_1 : decode cX0_swap 1 = .ok (.iload_n 1, 1) := by decide +kernel
theorem dX0_swap_2 : decode cX0_swap 2 = .ok (.invokevirtual 46, 3) := by decide +kernel
theorem dX0_swap_5 : decode cX0_swap 5 = .ok (.ifCond .eq 8, 3) := by decide +kernel
theorem dX0_swap_8 : decode cX0_swap 8 = .ok (.iload_n 2, 1) := by decide +kernel
theorem dX0_swap_9 : decode cX0_swap 9 = .ok (.iload_n 1, 1) := by decide +kernel
theorem dX0_swap_10 : decode cX0_swap 10 = .ok (.if_icmp .ge 5, 3) := by decide +kernel
theorem dX0_swap_13 : decode cX0_swap 13 = .ok (.iconst (-1), 1) := by decide +kernel
theorem dX0_swap_14 : decode cX0_swap 14 = .ok (.ireturn, 1) := by decide +kernel
theorem dX0_swap_15 : decode cX0_swap 15 = .ok (.aload_n 0, 1) := by decide +kernel
theorem dX0_swap_16 : decode cX0_swap 16 = .ok (.iload_n 1, 1) := by decide +kernel
theorem dX0_swap_17 : decode cX0_swap 17 = .ok (.iload_n 2, 1) := by decide +kernel
theorem dX0_swap_18 : decode cX0_swap 18 = .ok (.aload_n 0, 1) := by decide +kernel
theorem dX0_swap_19 : decode cX0_swap 19 = .ok (.getfield 16, 3) := by decide +kernel
theorem dX0_swap_22 : decode cX0_swap 22 = .ok (.invokestatic 50, 3) := by decide +kernel
theorem dX0_swap_25 : decode cX0_swap 25 = .ok (.invokevirtual 39, 3) := by decide +kernel
theorem dX0_swap_28 : decode cX0_swap 28 = .ok (.ireturn, 1) := by decide +kernel
theorem dX0_take_0 : decode cX0_take 0 = .ok (.aload_n 0, 1) := by decide +kernel
theorem dX0_take_1 : decode cX0_take 1 = .ok (.iload_n 1, 1) := by decide +kernel
theorem dX0_take_2 : decode cX0_take 2 = .ok (.invokevirtual 59, 3) := by decide +kernel
theorem dX0_take_5 : decode cX0_take 5 = .ok (.ifCond .ne 5, 3) := by decide +kernel
theorem dX0_take_8 : decode cX0_take 8 = .ok (.iconst (-1), 1) := by decide +kernel
theorem dX0_take_9 : decode cX0_take 9 = .ok (.ireturn, 1) := by decide +kernel
theorem dX0_take_10 : decode cX0_take 10 = .ok (.aload_n 0, 1) := by decide +kernel
theorem dX0_take_11 : decode cX0_take 11 = .ok (.getfield 9, 3) := by decide +kernel
theorem dX0_take_14 : decode cX0_take 14 = .ok (.iload_n 1, 1) := by decide +kernel
theorem dX0_take_15 : decode cX0_take 15 = .ok (.iaload, 1) := by decide +kernel
theorem dX0_take_16 : decode cX0_take 16 = .ok (.istore_n 2, 1) := by decide +kernel
theorem dX0_take_17 : decode cX0_take 17 = .ok (.aload_n 0, 1) := by decide +kernel
theorem dX0_take_18 : decode cX0_take 18 = .ok (.iload_n 1, 1) := by decide +kernel
theorem dX0_take_19 : decode cX0_take 19 = .ok (.iload_n 1, 1) := by decide +kernel
theorem dX0_take_20 : decode cX0_take 20 = .ok (.iconst 1, 1) := by decide +kernel
theorem dX0_take_21 : decode cX0_take 21 = .ok (.iadd, 1) := by decide +kernel
theorem dX0_take_22 : decode cX0_take 22 = .ok (.iconst 0, 1) := by decide +kernel
theorem dX0_take_23 : decode cX0_take 23 = .ok (.invokevirtual 55, 3) := by decide +kernel
theorem dX0_take_26 : decode cX0_take 26 = .ok (.iload_n 2, 1) := by decide +kernel
theorem dX0_take_27 : decode cX0_take 27 = .ok (.ireturn, 1) := by decide +kernel
theorem dX0_set_0 : decode cX0_set 0 = .ok (.aload_n 0, 1) := by decide +kernel
theorem dX0_set_1 : decode cX0_set 1 = .ok (.iload_n 1, 1) := by decide +kernel
theorem dX0_set_2 : decode cX0_set 2 = .ok (.invokevirtual 59, 3) := by decide +kernel
theorem dX0_set_5 : decode cX0_set 5 = .ok (.ifCond .eq 11, 3) := by decide +kernel
theorem dX0_set_8 : decode cX0_set 8 = .ok (.iload_n 2, 1) := by decide +kernel
theorem dX0_set_9 : decode cX0_set 9 = .ok (.i2l, 1) := by decide +kernel
theorem dX0_set_10 : decode cX0_set 10 = .ok (.invokestatic 23, 3) := by decide +kernel
theorem dX0_set_13 : decode cX0_set 13 = .ok (.ifCond .ne 5, 3) := by decide +kernel
theorem dX0_set_16 : decode cX0_set 16 = .ok (.iconst (-1), 1) := by decide +kernel
theorem dX0_set_17 : decode cX0_set 17 = .ok (.ireturn, 1) := by decide +kernel
theorem dX0_set_18 : decode cX0_set 18 = .ok (.aload_n 0, 1) := by decide +kernel
theorem dX0_set_19 : decode cX0_set 19 = .ok (.getfield 9, 3) := by decide +kernel
theorem dX0_set_22 : decode cX0_set 22 = .ok (.iload_n 1, 1) := by decide +kernel
theorem dX0_set_23 : decode cX0_set 23 = .ok (.iaload, 1) := by decide +kernel
theorem dX0_set_24 : decode cX0_set 24 = .ok (.istore_n 3, 1) := by decide +kernel
theorem dX0_set_25 : decode cX0_set 25 = .ok (.aload_n 0, 1) := by decide +kernel
theorem dX0_set_26 : decode cX0_set 26 = .ok (.getfield 9, 3) := by decide +kernel
theorem dX0_set_29 : decode cX0_set 29 = .ok (.iload_n 1, 1) := by decide +kernel
theorem dX0_set_30 : decode cX0_set 30 = .ok (.iload_n 2, 1) := by decide +kernel
theorem dX0_set_31 : decode cX0_set 31 = .ok (.iastore, 1) := by decide +kernel
theorem dX0_set_32 : decode cX0_set 32 = .ok (.iload_n 3, 1) := by decide +kernel
theorem dX0_set_33 : decode cX0_set 33 = .ok (.ireturn, 1) := by decide +kernel
theorem dX0_get_0 : decode cX0_get 0 = .ok (.aload_n 0, 1) := by decide +kernel
theorem dX0_get_1 : decode cX0_get 1 = .ok (.iload_n 1, 1) := by decide +kernel
theorem dX0_get_2 : decode cX0_get 2 = .ok (.invokevirtual 59, 3) := by decide +kernel
theorem dX0_get_5 : decode cX0_get 5 = .ok (.ifCond .eq 12, 3) := by decide +kernel
theorem dX0_get_8 : decode cX0_get 8 = .ok (.aload_n 0, 1) := by decide +kernel
theorem dX0_get_9 : decode cX0_get 9 = .ok (.getfield 9, 3) := by decide +kernel
theorem dX0_get_12 : decode cX0_get 12 = .ok (.iload_n 1, 1) := by decide +kernel
theorem dX0_get_13 : decode cX0_get 13 = .ok (.iaload, 1) := by decide +kernel
theorem dX0_get_14 : decode cX0_get 14 = .ok (.goto 4, 3) := by decide +kernel
theorem dX0_get_17 : decode cX0_get 17 = .ok (.iconst (-1), 1) := by decide +kernel
theorem dX0_get_18 : decode cX0_get 18 = .ok (.ireturn, 1) := by decide +kernel
theorem dX0_turn_0 : decode cX0_turn 0 = .ok (.iconst 0, 1) := by decide +kernel
theorem dX0_turn_1 : decode cX0_turn 1 = .ok (.istore_n 1, 1) := by decide +kernel
theorem dX0_turn_2 : decode cX0_turn 2 = .ok (.iload_n 1, 1) := by decide +kernel
theorem dX0_turn_3 : decode cX0_turn 3 = .ok (.aload_n 0, 1) := by decide +kernel
theorem dX0_turn_4 : decode cX0_turn 4 = .ok (.getfield 16, 3) := by decide +kernel
theorem dX0_turn_7 : decode cX0_turn 7 = .ok (.iconst 2, 1) := by decide +kernel
theorem dX0_turn_8 : decode cX0_turn 8 = .ok (.idiv, 1) := by decide +kernel
theorem dX0_turn_9 : decode cX0_turn 9 = .ok (.if_icmp .ge 44, 3) := by decide +kernel
theorem dX0_turn_12 : decode cX0_turn 12 = .ok (.aload_n 0, 1) := by decide +kernel
theorem dX0_turn_13 : decode cX0_turn 13 = .ok (.getfield 16, 3) := by decide +kernel
theorem dX0_turn_16 : decode cX0_turn 16 = .ok (.iconst 1, 1) := by decide +kernel
theorem dX0_turn_17 : decode cX0_turn 17 = .ok (.isub, 1) := by decide +kernel
theorem dX0_turn_18 : decode cX0_turn 18 = .ok (.iload_n 1, 1) := by decide +kernel
theorem dX0_turn_19 : decode cX0_turn 19 = .ok (.isub, 1) := by decide +kernel
theorem dX0_turn_20 : decode cX0_turn 20 = .ok (.istore_n 2, 1) := by decide +kernel
theorem dX0_turn_21 : decode cX0_turn 21 = .ok (.aload_n 0, 1) := by decide +kernel
theorem dX0_turn_22 : decode cX0_turn 22 = .ok (.getfield 9, 3) := by decide +kernel
theorem dX0_turn_25 : decode cX0_turn 25 = .ok (.iload_n 1, 1) := by decide +kernel
theorem dX0_turn_26 : decode cX0_turn 26 = .ok (.iaload, 1) := by decide +kernel
theorem dX0_turn_27 : decode cX0_turn 27 = .ok (.istore_n 3, 1) := by decide +kernel
theorem dX0_turn_28 : decode cX0_turn 28 = .ok (.aload_n 0, 1) := by decide +kernel
theorem dX0_turn_29 : decode cX0_turn 29 = .ok (.getfield 9, 3) := by decide +kernel
theorem dX0_turn_32 : decode cX0_turn 32 = .ok (.iload_n 1, 1) := by decide +kernel
theorem dX0_turn_33 : decode cX0_turn 33 = .ok (.aload_n 0, 1) := by decide +kernel
theorem dX0_turn_34 : decode cX0_turn 34 = .ok (.getfield 9, 3) := by decide +kernel
theorem dX0_turn_37 : decode cX0_turn 37 = .ok (.iload_n 2, 1) := by decide +kernel
theorem dX0_turn_38 : decode cX0_turn 38 = .ok (.iaload, 1) := by decide +kernel
theorem dX0_turn_39 : decode cX0_turn 39 = .ok (.iastore, 1) := by decide +kernel
theorem dX0_turn_40 : decode cX0_turn 40 = .ok (.aload_n 0, 1) := by decide +kernel
theorem dX0_turn_41 : decode cX0_turn 41 = .ok (.getfield 9, 3) := by decide +kernel
theorem dX0_turn_44 : decode cX0_turn 44 = .ok (.iload_n 2, 1) := by decide +kernel
theorem dX0_turn_45 : decode cX0_turn 45 = .ok (.iload_n 3, 1) := by decide +kernel
theorem dX0_turn_46 : decode cX0_turn 46 = .ok (.iastore, 1) := by decide +kernel
theorem dX0_turn_47 : decode cX0_turn 47 = .ok (.iinc 1 1, 3) := by decide +kernel
theorem dX0_turn_50 : decode cX0_turn 50 = .ok (.goto (-48), 3) := by decide +kernel
theorem dX0_turn_53 : decode cX0_turn 53 = .ok (.aload_n 0, 1) := by decide +kernel
theorem dX0_turn_54 : decode cX0_turn 54 = .ok (.getfield 16, 3) := by decide +kernel
theorem dX0_turn_57 : decode cX0_turn 57 = .ok (.ireturn, 1) := by decide +kernel
theorem dX0_find_0 : decode cX0_find 0 = .ok (.iload_n 2, 1) := by decide +kernel
theorem dX0_find_1 : decode cX0_find 1 = .ok (.ifCond .eq 11, 3) := by decide +kernel
theorem dX0_find_4 : decode cX0_find 4 = .ok (.aload_n 0, 1) := by decide +kernel
theorem dX0_find_5 : decode cX0_find 5 = .ok (.iload_n 1, 1) := by decide +kernel
theorem dX0_find_6 : decode cX0_find 6 = .ok (.invokevirtual 62, 3) := by decide +kernel
theorem dX0_find_9 : decode cX0_find 9 = .ok (.goto 8, 3) := by decide +kernel
theorem dX0_find_12 : decode cX0_find 12 = .ok (.aload_n 0, 1) := by decide +kernel
theorem dX0_find_13 : decode cX0_find 13 = .ok (.iload_n 1, 1) := by decide +kernel
theorem dX0_find_14 : decode cX0_find 14 = .ok (.invokevirtual 66, 3) := by decide +kernel
theorem dX0_find_17 : decode cX0_find 17 = .ok (.ireturn, 1) := by decide +kernel
theorem dX0_length_0 : decode cX0_length 0 = .ok (.iload_n 1, 1) := by decide +kernel
theorem dX0_length_1 : decode cX0_length 1 = .ok (.ifCond .ge 5, 3) := by decide +kernel
theorem dX0_length_4 : decode cX0_length 4 = .ok (.iconst (-1), 1) := by decide +kernel
theorem dX0_length_5 : decode cX0_length 5 = .ok (.ireturn, 1) := by decide +kernel
theorem dX0_length_6 : decode cX0_length 6 = .ok (.iload_n 1, 1) := by decide +kernel
theorem dX0_length_7 : decode cX0_length 7 = .ok (.sipush 3000, 3) := by decide +kernel
theorem dX0_length_10 : decode cX0_length 10 = .ok (.if_icmp .le 6, 3) := by decide +kernel
theorem dX0_length_13 : decode cX0_length 13 = .ok (.bipush (-3), 2) := by decide +kernel
theorem dX0_length_15 : decode cX0_length 15 = .ok (.ireturn, 1) := by decide +kernel
theorem dX0_length_16 : decode cX0_length 16 = .ok (.aload_n 0, 1) := by decide +kernel
theorem dX0_length_17 : decode cX0_length 17 = .ok (.getfield 16, 3) := by decide +kernel
theorem dX0_length_20 : decode cX0_length 20 = .ok (.istore_n 2, 1) := by decide +kernel
theorem dX0_length_21 : decode cX0_length 21 = .ok (.iload_n 2, 1) := by decide +kernel
theorem dX0_length_22 : decode cX0_length 22 = .ok (.iload_n 1, 1) := by decide +kernel
theorem dX0_length_23 : decode cX0_length 23 = .ok (.if_icmp .ge 16, 3) := by decide +kernel
theorem dX0_length_26 : decode cX0_length 26 = .ok (.aload_n 0, 1) := by decide +kernel
theorem dX0_length_27 : decode cX0_length 27 = .ok (.getfield 9, 3) := by decide +kernel
theorem dX0_length_30 : decode cX0_length 30 = .ok (.iload_n 2, 1) := by decide +kernel
theorem dX0_length_31 : decode cX0_length 31 = .ok (.iconst 0, 1) := by decide +kernel
theorem dX0_length_32 : decode cX0_length 32 = .ok (.iastore, 1) := by decide +kernel
theorem dX0_length_33 : decode cX0_length 33 = .ok (.iinc 2 1, 3) := by decide +kernel
theorem dX0_length_36 : decode cX0_length 36 = .ok (.goto (-15), 3) := by decide +kernel
theorem dX0_length_39 : decode cX0_length 39 = .ok (.aload_n 0, 1) := by decide +kernel
theorem dX0_length_40 : decode cX0_length 40 = .ok (.iload_n 1, 1) := by decide +kernel
theorem dX0_length_41 : decode cX0_length 41 = .ok (.putfield 16, 3) := by decide +kernel
theorem dX0_length_44 : decode cX0_length 44 = .ok (.aload_n 0, 1) := by decide +kernel
theorem dX0_length_45 : decode cX0_length 45 = .ok (.getfield 16, 3) := by decide +kernel
theorem dX0_length_48 : decode cX0_length 48 = .ok (.ireturn, 1) := by decide +kernel
theorem dX0_lift_0 : decode cX0_lift 0 = .ok (.iload_n 1, 1) := by decide +kernel
theorem dX0_lift_1 : decode cX0_lift 1 = .ok (.ifCond .lt 16, 3) := by decide +kernel
theorem dX0_lift_4 : decode cX0_lift 4 = .ok (.iload_n 2, 1) := by decide +kernel
theorem dX0_lift_5 : decode cX0_lift 5 = .ok (.iload_n 1, 1) := by decide +kernel
theorem dX0_lift_6 : decode cX0_lift 6 = .ok (.if_icmp .lt 11, 3) := by decide +kernel
theorem dX0_lift_9 : decode cX0_lift 9 = .ok (.iload_n 2, 1) := by decide +kernel
theorem dX0_lift_10 : decode cX0_lift 10 = .ok (.aload_n 0, 1) := by decide +kernel
theorem dX0_lift_11 : decode cX0_lift 11 = .ok (.getfield 16, 3) := by decide +kernel
theorem dX0_lift_14 : decode cX0_lift 14 = .ok (.if_icmp .le 5, 3) := by decide +kernel
theorem dX0_lift_17 : decode cX0_lift 17 = .ok (.iconst (-1), 1) := by decide +kernel
theorem dX0_lift_18 : decode cX0_lift 18 = .ok (.ireturn, 1) := by decide +kernel
theorem dX0_lift_19 : decode cX0_lift 19 = .ok (.iload_n 2, 1) := by decide +kernel
theorem dX0_lift_20 : decode cX0_lift 20 = .ok (.iload_n 1, 1) := by decide +kernel
theorem dX0_lift_21 : decode cX0_lift 21 = .ok (.isub, 1) := by decide +kernel
theorem dX0_lift_22 : decode cX0_lift 22 = .ok (.istore_n 3, 1) := by decide +kernel
theorem dX0_lift_23 : decode cX0_lift 23 = .ok (.iload_n 3, 1) := by decide +kernel
theorem dX0_lift_24 : decode cX0_lift 24 = .ok (.bipush 40, 2) := by decide +kernel
theorem dX0_lift_26 : decode cX0_lift 26 = .ok (.if_icmp .le 6, 3) := by decide +kernel
theorem dX0_lift_29 : decode cX0_lift 29 = .ok (.bipush (-3), 2) := by decide +kernel
theorem dX0_lift_31 : decode cX0_lift 31 = .ok (.ireturn, 1) := by decide +kernel
theorem dX0_lift_32 : decode cX0_lift 32 = .ok (.aload_n 0, 1) := by decide +kernel
theorem dX0_lift_33 : decode cX0_lift 33 = .ok (.getfield 9, 3) := by decide +kernel
theorem dX0_lift_36 : decode cX0_lift 36 = .ok (.iload_n 1, 1) := by decide +kernel
theorem dX0_lift_37 : decode cX0_lift 37 = .ok (.aload_n 0, 1) := by decide +kernel
theorem dX0_lift_38 : decode cX0_lift 38 = .ok (.getfield 13, 3) := by decide +kernel
theorem dX0_lift_41 : decode cX0_lift 41 = .ok (.iconst 0, 1) := by decide +kernel
theorem dX0_lift_42 : decode cX0_lift 42 = .ok (.iload_n 3, 1) := by decide +kernel
theorem dX0_lift_43 : decode cX0_lift 43 = .ok (.invokestatic 69, 3) := by decide +kernel
theorem dX0_lift_46 : decode cX0_lift 46 = .ok (.aload_n 0, 1) := by decide +kernel
theorem dX0_lift_47 : decode cX0_lift 47 = .ok (.iload_n 3, 1) := by decide +kernel
theorem dX0_lift_48 : decode cX0_lift 48 = .ok (.putfield 20, 3) := by decide +kernel
theorem dX0_lift_51 : decode cX0_lift 51 = .ok (.aload_n 0, 1) := by decide +kernel
theorem dX0_lift_52 : decode cX0_lift 52 = .ok (.getfield 20, 3) := by decide +kernel
theorem dX0_lift_55 : decode cX0_lift 55 = .ok (.ireturn, 1) := by decide +kernel
theorem dX0_look_0 : decode cX0_look 0 = .ok (.iload_n 1, 1) := by decide +kernel
theorem dX0_look_1 : decode cX0_look 1 = .ok (.tableswitch 42 0 2 #[27, 32, 37], 27) := by decide +kernel
theorem dX0_look_28 : decode cX0_look 28 = .ok (.aload_n 0, 1) := by decide +kernel
theorem dX0_look_29 : decode cX0_look 29 = .ok (.getfield 16, 3) := by decide +kernel
theorem dX0_look_32 : decode cX0_look 32 = .ok (.ireturn, 1) := by decide +kernel
theorem dX0_look_33 : decode cX0_look 33 = .ok (.aload_n 0, 1) := by decide +kernel
theorem dX0_look_34 : decode cX0_look 34 = .ok (.getfield 20, 3) := by decide +kernel
theorem dX0_look_37 : decode cX0_look 37 = .ok (.ireturn, 1) := by decide +kernel
theorem dX0_look_38 : decode cX0_look 38 = .ok (.aload_n 0, 1) := by decide +kernel
theorem dX0_look_39 : decode cX0_look 39 = .ok (.invokevirtual 75, 3) := by decide +kernel
theorem dX0_look_42 : decode cX0_look 42 = .ok (.ireturn, 1) := by decide +kernel
theorem dX0_look_43 : decode cX0_look 43 = .ok (.iconst (-1), 1) := by decide +kernel
theorem dX0_look_44 : decode cX0_look 44 = .ok (.ireturn, 1) := by decide +kernel
theorem dX0_scrap_0 : decode cX0_scrap 0 = .ok (.iload_n 1, 1) := by decide +kernel
theorem dX0_scrap_1 : decode cX0_scrap 1 = .ok (.ifCond .lt 20, 3) := by decide +kernel
theorem dX0_scrap_4 : decode cX0_scrap 4 = .ok (.iload_n 1, 1) := by decide +kernel
theorem dX0_scrap_5 : decode cX0_scrap 5 = .ok (.aload_n 0, 1) := by decide +kernel
theorem dX0_scrap_6 : decode cX0_scrap 6 = .ok (.getfield 20, 3) := by decide +kernel
theorem dX0_scrap_9 : decode cX0_scrap 9 = .ok (.if_icmp .ge 12, 3) := by decide +kernel
theorem dX0_scrap_12 : decode cX0_scrap 12 = .ok (.aload_n 0, 1) := by decide +kernel
theorem dX0_scrap_13 : decode cX0_scrap 13 = .ok (.getfield 13, 3) := by decide +kernel
theorem dX0_scrap_16 : decode cX0_scrap 16 = .ok (.iload_n 1, 1) := by decide +kernel
theorem dX0_scrap_17 : decode cX0_scrap 17 = .ok (.iaload, 1) := by decide +kernel
theorem dX0_scrap_18 : decode cX0_scrap 18 = .ok (.goto 4, 3) := by decide +kernel
theorem dX0_scrap_21 : decode cX0_scrap 21 = .ok (.iconst (-1), 1) := by decide +kernel
theorem dX0_scrap_22 : decode cX0_scrap 22 = .ok (.ireturn, 1) := by decide +kernel
theorem dX0_compare_0 : decode cX0_compare 0 = .ok (.aload_n 0, 1) := by decide +kernel
theorem dX0_compare_1 : decode cX0_compare 1 = .ok (.getfield 16, 3) := by decide +kernel
theorem dX0_compare_4 : decode cX0_compare 4 = .ok (.aload_n 0, 1) := by decide +kernel
theorem dX0_compare_5 : decode cX0_compare 5 = .ok (.getfield 20, 3) := by decide +kernel
theorem dX0_compare_8 : decode cX0_compare 8 = .ok (.invokestatic 50, 3) := by decide +kernel
theorem dX0_compare_11 : decode cX0_compare 11 = .ok (.istore_n 1, 1) := by decide +kernel
theorem dX0_compare_12 : decode cX0_compare 12 = .ok (.iconst 0, 1) := by decide +kernel
theorem dX0_compare_13 : decode cX0_compare 13 = .ok (.istore_n 2, 1) := by decide +kernel
theorem dX0_compare_14 : decode cX0_compare 14 = .ok (.iload_n 2, 1) := by decide +kernel
theorem dX0_compare_15 : decode cX0_compare 15 = .ok (.iload_n 1, 1) := by decide +kernel
theorem dX0_compare_16 : decode cX0_compare 16 = .ok (.if_icmp .ge 40, 3) := by decide +kernel
theorem dX0_compare_19 : decode cX0_compare 19 = .ok (.aload_n 0, 1) := by decide +kernel
theorem dX0_compare_20 : decode cX0_compare 20 = .ok (.getfield 9, 3) := by decide +kernel
theorem dX0_compare_23 : decode cX0_compare 23 = .ok (.iload_n 2, 1) := by decide +kernel
theorem dX0_compare_24 : decode cX0_compare 24 = .ok (.iaload, 1) := by decide +kernel
theorem dX0_compare_25 : decode cX0_compare 25 = .ok (.aload_n 0, 1) := by decide +kernel
theorem dX0_compare_26 : decode cX0_compare 26 = .ok (.getfield 13, 3) := by decide +kernel
theorem dX0_compare_29 : decode cX0_compare 29 = .ok (.iload_n 2, 1) := by decide +kernel
theorem dX0_compare_30 : decode cX0_compare 30 = .ok (.iaload, 1) := by decide +kernel
theorem dX0_compare_31 : decode cX0_compare 31 = .ok (.if_icmp .eq 19, 3) := by decide +kernel
theorem dX0_compare_34 : decode cX0_compare 34 = .ok (.aload_n 0, 1) := by decide +kernel
theorem dX0_compare_35 : decode cX0_compare 35 = .ok (.getfield 9, 3) := by decide +kernel
theorem dX0_compare_38 : decode cX0_compare 38 = .ok (.iload_n 2, 1) := by decide +kernel
theorem dX0_compare_39 : decode cX0_compare 39 = .ok (.iaload, 1) := by decide +kernel
theorem dX0_compare_40 : decode cX0_compare 40 = .ok (.aload_n 0, 1) := by decide +kernel
theorem dX0_compare_41 : decode cX0_compare 41 = .ok (.getfield 13, 3) := by decide +kernel
theorem dX0_compare_44 : decode cX0_compare 44 = .ok (.iload_n 2, 1) := by decide +kernel
theorem dX0_compare_45 : decode cX0_compare 45 = .ok (.iaload, 1) := by decide +kernel
theorem dX0_compare_46 : decode cX0_compare 46 = .ok (.invokestatic 79, 3) := by decide +kernel
theorem dX0_compare_49 : decode cX0_compare 49 = .ok (.ireturn, 1) := by decide +kernel
theorem dX0_compare_50 : decode cX0_compare 50 = .ok (.iinc 2 1, 3) := by decide +kernel
theorem dX0_compare_53 : decode cX0_compare 53 = .ok (.goto (-39), 3) := by decide +kernel
theorem dX0_compare_56 : decode cX0_compare 56 = .ok (.aload_n 0, 1) := by decide +kernel
theorem dX0_compare_57 : decode cX0_compare 57 = .ok (.getfield 16, 3) := by decide +kernel
theorem dX0_compare_60 : decode cX0_compare 60 = .ok (.aload_n 0, 1) := by decide +kernel
theorem dX0_compare_61 : decode cX0_compare 61 = .ok (.getfield 20, 3) := by decide +kernel
theorem dX0_compare_64 : decode cX0_compare 64 = .ok (.invokestatic 79, 3) := by decide +kernel
theorem dX0_compare_67 : decode cX0_compare 67 = .ok (.ireturn, 1) := by decide +kernel
theorem dX0_order_0 : decode cX0_order 0 = .ok (.iload_n 0, 1) := by decide +kernel
theorem dX0_order_1 : decode cX0_order 1 = .ok (.iload_n 1, 1) := by decide +kernel
theorem dX0_order_2 : decode cX0_order 2 = .ok (.if_icmp .ne 5, 3) := by decide +kernel
theorem dX0_order_5 : decode cX0_order 5 = .ok (.iconst 0, 1) := by decide +kernel
theorem dX0_order_6 : decode cX0_order 6 = .ok (.ireturn, 1) := by decide +kernel
theorem dX0_order_7 : decode cX0_order 7 = .ok (.iload_n 0, 1) := by decide +kernel
theorem dX0_order_8 : decode cX0_order 8 = .ok (.iload_n 1, 1) := by decide +kernel
theorem dX0_order_9 : decode cX0_order 9 = .ok (.if_icmp .ge 7, 3) := by decide +kernel
theorem dX0_order_12 : decode cX0_order 12 = .ok (.iconst (-1), 1) := by decide +kernel
theorem dX0_order_13 : decode cX0_order 13 = .ok (.goto 4, 3) := by decide +kernel
theorem dX0_order_16 : decode cX0_order 16 = .ok (.iconst 1, 1) := by decide +kernel
theorem dX0_order_17 : decode cX0_order 17 = .ok (.ireturn, 1) := by decide +kernel
theorem dX0_isSign_0 : decode cX0_isSign 0 = .ok (.lload_n 0, 1) := by decide +kernel
theorem dX0_isSign_1 : decode cX0_isSign 1 = .ok (.lconst 0, 1) := by decide +kernel
theorem dX0_isSign_2 : decode cX0_isSign 2 = .ok (.lcmp, 1) := by decide +kernel
theorem dX0_isSign_3 : decode cX0_isSign 3 = .ok (.ifCond .lt 31, 3) := by decide +kernel
theorem dX0_isSign_6 : decode cX0_isSign 6 = .ok (.lload_n 0, 1) := by decide +kernel
theorem dX0_isSign_7 : decode cX0_isSign 7 = .ok (.ldc2_w 82, 3) := by decide +kernel
theorem dX0_isSign_10 : decode cX0_isSign 10 = .ok (.lcmp, 1) := by decide +kernel
theorem dX0_isSign_11 : decode cX0_isSign 11 = .ok (.ifCond .ge 23, 3) := by decide +kernel
theorem dX0_isSign_14 : decode cX0_isSign 14 = .ok (.lload_n 0, 1) := by decide +kernel
theorem dX0_isSign_15 : decode cX0_isSign 15 = .ok (.ldc2_w 84, 3) := by decide +kernel
theorem dX0_isSign_18 : decode cX0_isSign 18 = .ok (.lcmp, 1) := by decide +kernel
theorem dX0_isSign_19 : decode cX0_isSign 19 = .ok (.ifCond .lt 11, 3) := by decide +kernel
theorem dX0_isSign_22 : decode cX0_isSign 22 = .ok (.lload_n 0, 1) := by decide +kernel
theorem dX0_isSign_23 : decode cX0_isSign 23 = .ok (.ldc2_w 86, 3) := by decide +kernel
theorem dX0_isSign_26 : decode cX0_isSign 26 = .ok (.lcmp, 1) := by decide +kernel
theorem dX0_isSign_27 : decode cX0_isSign 27 = .ok (.ifCond .le 7, 3) := by decide +kernel
theorem dX0_isSign_30 : decode cX0_isSign 30 = .ok (.iconst 1, 1) := by decide +kernel
theorem dX0_isSign_31 : decode cX0_isSign 31 = .ok (.goto 4, 3) := by decide +kernel
theorem dX0_isSign_34 : decode cX0_isSign 34 = .ok (.iconst 0, 1) := by decide +kernel
theorem dX0_isSign_35 : decode cX0_isSign 35 = .ok (.ireturn, 1) := by decide +kernel
theorem dX0_isPlace_0 : decode cX0_isPlace 0 = .ok (.iload_n 1, 1) := by decide +kernel
theorem dX0_isPlace_1 : decode cX0_isPlace 1 = .ok (.ifCond .lt 15, 3) := by decide +kernel
theorem dX0_isPlace_4 : decode cX0_isPlace 4 = .ok (.iload_n 1, 1) := by decide +kernel
theorem dX0_isPlace_5 : decode cX0_isPlace 5 = .ok (.aload_n 0, 1) := by decide +kernel
theorem dX0_isPlace_6 : decode cX0_isPlace 6 = .ok (.getfield 16, 3) := by decide +kernel
theorem dX0_isPlace_9 : decode cX0_isPlace 9 = .ok (.if_icmp .ge 7, 3) := by decide +kernel
theorem dX0_isPlace_12 : decode cX0_isPlace 12 = .ok (.iconst 1, 1) := by decide +kernel
theorem dX0_isPlace_13 : decode cX0_isPlace 13 = .ok (.goto 4, 3) := by decide +kernel
theorem dX0_isPlace_16 : decode cX0_isPlace 16 = .ok (.iconst 0, 1) := by decide +kernel
theorem dX0_isPlace_17 : decode cX0_isPlace 17 = .ok (.ireturn, 1) := by decide +kernel
theorem dX0_isPlaceOrEnd_0 : decode cX0_isPlaceOrEnd 0 = .ok (.iload_n 1, 1) := by decide +kernel
theorem dX0_isPlaceOrEnd_1 : decode cX0_isPlaceOrEnd 1 = .ok (.ifCond .lt 15, 3) := by decide +kernel
theorem dX0_isPlaceOrEnd_4 : decode cX0_isPlaceOrEnd 4 = .ok (.iload_n 1, 1) := by decide +kernel
theorem dX0_isPlaceOrEnd_5 : decode cX0_isPlaceOrEnd 5 = .ok (.aload_n 0, 1) := by decide +kernel
theorem dX0_isPlaceOrEnd_6 : decode cX0_isPlaceOrEnd 6 = .ok (.getfield 16, 3) := by decide +kernel
theorem dX0_isPlaceOrEnd_9 : decode cX0_isPlaceOrEnd 9 = .ok (.if_icmp .gt 7, 3) := by decide +kernel
theorem dX0_isPlaceOrEnd_12 : decode cX0_isPlaceOrEnd 12 = .ok (.iconst 1, 1) := by decide +kernel
theorem dX0_isPlaceOrEnd_13 : decode cX0_isPlaceOrEnd 13 = .ok (.goto 4, 3) := by decide +kernel
theorem dX0_isPlaceOrEnd_16 : decode cX0_isPlaceOrEnd 16 = .ok (.iconst 0, 1) := by decide +kernel
theorem dX0_isPlaceOrEnd_17 : decode cX0_isPlaceOrEnd 17 = .ok (.ireturn, 1) := by decide +kernel
theorem dX0_hasRoom_0 : decode cX0_hasRoom 0 = .ok (.aload_n 0, 1) := by decide +kernel
theorem dX0_hasRoom_1 : decode cX0_hasRoom 1 = .ok (.getfield 16, 3) := by decide +kernel
theorem dX0_hasRoom_4 : decode cX0_hasRoom 4 = .ok (.iload_n 1, 1) := by decide +kernel
theorem dX0_hasRoom_5 : decode cX0_hasRoom 5 = .ok (.iadd, 1) := by decide +kernel
theorem dX0_hasRoom_6 : decode cX0_hasRoom 6 = .ok (.sipush 3000, 3) := by decide +kernel
theorem dX0_hasRoom_9 : decode cX0_hasRoom 9 = .ok (.if_icmp .gt 7, 3) := by decide +kernel
theorem dX0_hasRoom_12 : decode cX0_hasRoom 12 = .ok (.iconst 1, 1) := by decide +kernel
theorem dX0_hasRoom_13 : decode cX0_hasRoom 13 = .ok (.goto 4, 3) := by decide +kernel
theorem dX0_hasRoom_16 : decode cX0_hasRoom 16 = .ok (.iconst 0, 1) := by decide +kernel
theorem dX0_hasRoom_17 : decode cX0_hasRoom 17 = .ok (.ireturn, 1) := by decide +kernel
theorem dX0_makeGap_0 : decode cX0_makeGap 0 = .ok (.aload_n 0, 1) := by decide +kernel
theorem dX0_makeGap_1 : decode cX0_makeGap 1 = .ok (.getfield 9, 3) := by decide +kernel
theorem dX0_makeGap_4 : decode cX0_makeGap 4 = .ok (.iload_n 2, 1) := by decide +kernel
theorem dX0_makeGap_5 : decode cX0_makeGap 5 = .ok (.aload_n 0, 1) := by decide +kernel
theorem dX0_makeGap_6 : decode cX0_makeGap 6 = .ok (.getfield 9, 3) := by decide +kernel
theorem dX0_makeGap_9 : decode cX0_makeGap 9 = .ok (.iload_n 1, 1) := by decide +kernel
theorem dX0_makeGap_10 : decode cX0_makeGap 10 = .ok (.iload_n 3, 1) := by decide +kernel
theorem dX0_makeGap_11 : decode cX0_makeGap 11 = .ok (.iadd, 1) := by decide +kernel
theorem dX0_makeGap_12 : decode cX0_makeGap 12 = .ok (.aload_n 0, 1) := by decide +kernel
theorem dX0_makeGap_13 : decode cX0_makeGap 13 = .ok (.getfield 16, 3) := by decide +kernel
theorem dX0_makeGap_16 : decode cX0_makeGap 16 = .ok (.iload_n 2, 1) := by decide +kernel
theorem dX0_makeGap_17 : decode cX0_makeGap 17 = .ok (.isub, 1) := by decide +kernel
theorem dX0_makeGap_18 : decode cX0_makeGap 18 = .ok (.invokestatic 69, 3) := by decide +kernel
theorem dX0_makeGap_21 : decode cX0_makeGap 21 = .ok (.aload_n 0, 1) := by decide +kernel
theorem dX0_makeGap_22 : decode cX0_makeGap 22 = .ok (.aload_n 0, 1) := by decide +kernel
theorem dX0_makeGap_23 : decode cX0_makeGap 23 = .ok (.getfield 16, 3) := by decide +kernel
theorem dX0_makeGap_26 : decode cX0_makeGap 26 = .ok (.iload_n 2, 1) := by decide +kernel
theorem dX0_makeGap_27 : decode cX0_makeGap 27 = .ok (.iload_n 1, 1) := by decide +kernel
theorem dX0_makeGap_28 : decode cX0_makeGap 28 = .ok (.isub, 1) := by decide +kernel
theorem dX0_makeGap_29 : decode cX0_makeGap 29 = .ok (.isub, 1) := by decide +kernel
theorem dX0_makeGap_30 : decode cX0_makeGap 30 = .ok (.iload_n 3, 1) := by decide +kernel
theorem dX0_makeGap_31 : decode cX0_makeGap 31 = .ok (.iadd, 1) := by decide +kernel
theorem dX0_makeGap_32 : decode cX0_makeGap 32 = .ok (.putfield 16, 3) := by decide +kernel
theorem dX0_makeGap_35 : decode cX0_makeGap 35 = .ok (.return_, 1) := by decide +kernel
theorem dX0_putScrap_0 : decode cX0_putScrap 0 = .ok (.aload_n 0, 1) := by decide +kernel
theorem dX0_putScrap_1 : decode cX0_putScrap 1 = .ok (.aload_n 0, 1) := by decide +kernel
theorem dX0_putScrap_2 : decode cX0_putScrap 2 = .ok (.getfield 20, 3) := by decide +kernel
theorem dX0_putScrap_5 : decode cX0_putScrap 5 = .ok (.iload_n 2, 1) := by decide +kernel
theorem dX0_putScrap_6 : decode cX0_putScrap 6 = .ok (.iload_n 1, 1) := by decide +kernel
theorem dX0_putScrap_7 : decode cX0_putScrap 7 = .ok (.isub, 1) := by decide +kernel
theorem dX0_putScrap_8 : decode cX0_putScrap 8 = .ok (.isub, 1) := by decide +kernel
theorem dX0_putScrap_9 : decode cX0_putScrap 9 = .ok (.invokevirtual 88, 3) := by decide +kernel
theorem dX0_putScrap_12 : decode cX0_putScrap 12 = .ok (.ifCond .ne 6, 3) := by decide +kernel
theorem dX0_putScrap_15 : decode cX0_putScrap 15 = .ok (.bipush (-3), 2) := by decide +kernel
theorem dX0_putScrap_17 : decode cX0_putScrap 17 = .ok (.ireturn, 1) := by decide +kernel
theorem dX0_putScrap_18 : decode cX0_putScrap 18 = .ok (.aload_n 0, 1) := by decide +kernel
theorem dX0_putScrap_19 : decode cX0_putScrap 19 = .ok (.iload_n 1, 1) := by decide +kernel
theorem dX0_putScrap_20 : decode cX0_putScrap 20 = .ok (.iload_n 2, 1) := by decide +kernel
theorem dX0_putScrap_21 : decode cX0_putScrap 21 = .ok (.aload_n 0, 1) := by decide +kernel
theorem dX0_putScrap_22 : decode cX0_putScrap 22 = .ok (.getfield 20, 3) := by decide +kernel
theorem dX0_putScrap_25 : decode cX0_putScrap 25 = .ok (.invokevirtual 55, 3) := by decide +kernel
theorem dX0_putScrap_28 : decode cX0_putScrap 28 = .ok (.aload_n 0, 1) := by decide +kernel
theorem dX0_putScrap_29 : decode cX0_putScrap 29 = .ok (.getfield 13, 3) := by decide +kernel
theorem dX0_putScrap_32 : decode cX0_putScrap 32 = .ok (.iconst 0, 1) := by decide +kernel
theorem dX0_putScrap_33 : decode cX0_putScrap 33 = .ok (.aload_n 0, 1) := by decide +kernel
theorem dX0_putScrap_34 : decode cX0_putScrap 34 = .ok (.getfield 9, 3) := by decide +kernel
theorem dX0_putScrap_37 : decode cX0_putScrap 37 = .ok (.iload_n 1, 1) := by decide +kernel
theorem dX0_putScrap_38 : decode cX0_putScrap 38 = .ok (.aload_n 0, 1) := by decide +kernel
theorem dX0_putScrap_39 : decode cX0_putScrap 39 = .ok (.getfield 20, 3) := by decide +kernel
theorem dX0_putScrap_42 : decode cX0_putScrap 42 = .ok (.invokestatic 69, 3) := by decide +kernel
theorem dX0_putScrap_45 : decode cX0_putScrap 45 = .ok (.aload_n 0, 1) := by decide +kernel
theorem dX0_putScrap_46 : decode cX0_putScrap 46 = .ok (.getfield 16, 3) := by decide +kernel
theorem dX0_putScrap_49 : decode cX0_putScrap 49 = .ok (.ireturn, 1) := by decide +kernel
theorem dX0_putSign_0 : decode cX0_putSign 0 = .ok (.aload_n 0, 1) := by decide +kernel
theorem dX0_putSign_1 : decode cX0_putSign 1 = .ok (.iconst 1, 1) := by decide +kernel
theorem dX0_putSign_2 : decode cX0_putSign 2 = .ok (.invokevirtual 88, 3) := by decide +kernel
theorem dX0_putSign_5 : decode cX0_putSign 5 = .ok (.ifCond .ne 6, 3) := by decide +kernel
theorem dX0_putSign_8 : decode cX0_putSign 8 = .ok (.bipush (-3), 2) := by decide +kernel
theorem dX0_putSign_10 : decode cX0_putSign 10 = .ok (.ireturn, 1) := by decide +kernel
theorem dX0_putSign_11 : decode cX0_putSign 11 = .ok (.aload_n 0, 1) := by decide +kernel
theorem dX0_putSign_12 : decode cX0_putSign 12 = .ok (.iload_n 1, 1) := by decide +kernel
theorem dX0_putSign_13 : decode cX0_putSign 13 = .ok (.iload_n 1, 1) := by decide +kernel
theorem dX0_putSign_14 : decode cX0_putSign 14 = .ok (.iconst 1, 1) := by decide +kernel
theorem dX0_putSign_15 : decode cX0_putSign 15 = .ok (.invokevirtual 55, 3) := by decide +kernel
theorem dX0_putSign_18 : decode cX0_putSign 18 = .ok (.aload_n 0, 1) := by decide +kernel
theorem dX0_putSign_19 : decode cX0_putSign 19 = .ok (.getfield 9, 3) := by decide +kernel
theorem dX0_putSign_22 : decode cX0_putSign 22 = .ok (.iload_n 1, 1) := by decide +kernel
theorem dX0_putSign_23 : decode cX0_putSign 23 = .ok (.iload_n 2, 1) := by decide +kernel
theorem dX0_putSign_24 : decode cX0_putSign 24 = .ok (.iastore, 1) := by decide +kernel
theorem dX0_putSign_25 : decode cX0_putSign 25 = .ok (.aload_n 0, 1) := by decide +kernel
theorem dX0_putSign_26 : decode cX0_putSign 26 = .ok (.getfield 16, 3) := by decide +kernel
theorem dX0_putSign_29 : decode cX0_putSign 29 = .ok (.ireturn, 1) := by decide +kernel
theorem dX0_putWord_0 : decode cX0_putWord 0 = .ok (.aload_n 2, 1) := by decide +kernel
theorem dX0_putWord_1 : decode cX0_putWord 1 = .ok (.invokevirtual 91, 3) := by decide +kernel
theorem dX0_putWord_4 : decode cX0_putWord 4 = .ok (.istore_n 3, 1) := by decide +kernel
theorem dX0_putWord_5 : decode cX0_putWord 5 = .ok (.aload_n 0, 1) := by decide +kernel
theorem dX0_putWord_6 : decode cX0_putWord 6 = .ok (.iload_n 3, 1) := by decide +kernel
theorem dX0_putWord_7 : decode cX0_putWord 7 = .ok (.invokevirtual 88, 3) := by decide +kernel
theorem dX0_putWord_10 : decode cX0_putWord 10 = .ok (.ifCond .ne 6, 3) := by decide +kernel
theorem dX0_putWord_13 : decode cX0_putWord 13 = .ok (.bipush (-3), 2) := by decide +kernel
theorem dX0_putWord_15 : decode cX0_putWord 15 = .ok (.ireturn, 1) := by decide +kernel
theorem dX0_putWord_16 : decode cX0_putWord 16 = .ok (.aload_n 0, 1) := by decide +kernel
theorem dX0_putWord_17 : decode cX0_putWord 17 = .ok (.iload_n 1, 1) := by decide +kernel
theorem dX0_putWord_18 : decode cX0_putWord 18 = .ok (.iload_n 1, 1) := by decide +kernel
theorem dX0_putWord_19 : decode cX0_putWord 19 = .ok (.iload_n 3, 1) := by decide +kernel
theorem dX0_putWord_20 : decode cX0_putWord 20 = .ok (.invokevirtual 55, 3) := by decide +kernel
theorem dX0_putWord_23 : decode cX0_putWord 23 = .ok (.iconst 0, 1) := by decide +kernel
theorem dX0_putWord_24 : decode cX0_putWord 24 = .ok (.istore 4, 2) := by decide +kernel
theorem dX0_putWord_26 : decode cX0_putWord 26 = .ok (.iload 4, 2) := by decide +kernel
theorem dX0_putWord_28 : decode cX0_putWord 28 = .ok (.iload_n 3, 1) := by decide +kernel
theorem dX0_putWord_29 : decode cX0_putWord 29 = .ok (.if_icmp .ge 24, 3) := by decide +kernel
theorem dX0_putWord_32 : decode cX0_putWord 32 = .ok (.aload_n 0, 1) := by decide +kernel
theorem dX0_putWord_33 : decode cX0_putWord 33 = .ok (.getfield 9, 3) := by decide +kernel
theorem dX0_putWord_36 : decode cX0_putWord 36 = .ok (.iload_n 1, 1) := by decide +kernel
theorem dX0_putWord_37 : decode cX0_putWord 37 = .ok (.iload 4, 2) := by decide +kernel
theorem dX0_putWord_39 : decode cX0_putWord 39 = .ok (.iadd, 1) := by decide +kernel
theorem dX0_putWord_40 : decode cX0_putWord 40 = .ok (.aload_n 2, 1) := by decide +kernel
theorem dX0_putWord_41 : decode cX0_putWord 41 = .ok (.iload 4, 2) := by decide +kernel
theorem dX0_putWord_43 : decode cX0_putWord 43 = .ok (.invokevirtual 96, 3) := by decide +kernel
theorem dX0_putWord_46 : decode cX0_putWord 46 = .ok (.iastore, 1) := by decide +kernel
theorem dX0_putWord_47 : decode cX0_putWord 47 = .ok (.iinc 4 1, 3) := by decide +kernel
theorem dX0_putWord_50 : decode cX0_putWord 50 = .ok (.goto (-24), 3) := by decide +kernel
theorem dX0_putWord_53 : decode cX0_putWord 53 = .ok (.aload_n 0, 1) := by decide +kernel
theorem dX0_putWord_54 : decode cX0_putWord 54 = .ok (.getfield 16, 3) := by decide +kernel
theorem dX0_putWord_57 : decode cX0_putWord 57 = .ok (.ireturn, 1) := by decide +kernel
theorem dX0_putDigits_0 : decode cX0_putDigits 0 = .ok (.lload_n 2, 1) := by decide +kernel
theorem dX0_putDigits_1 : decode cX0_putDigits 1 = .ok (.lconst 0, 1) := by decide +kernel
theorem dX0_putDigits_2 : decode cX0_putDigits 2 = .ok (.lcmp, 1) := by decide +kernel
theorem dX0_putDigits_3 : decode cX0_putDigits 3 = .ok (.ifCond .ge 7, 3) := by decide +kernel
theorem dX0_putDigits_6 : decode cX0_putDigits 6 = .ok (.iconst 1, 1) := by decide +kernel
theorem dX0_putDigits_7 : decode cX0_putDigits 7 = .ok (.goto 4, 3) := by decide +kernel
theorem dX0_putDigits_10 : decode cX0_putDigits 10 = .ok (.iconst 0, 1) := by decide +kernel
theorem dX0_putDigits_11 : decode cX0_putDigits 11 = .ok (.istore 4, 2) := by decide +kernel
theorem dX0_putDigits_13 : decode cX0_putDigits 13 = .ok (.iload 4, 2) := by decide +kernel
theorem dX0_putDigits_15 : decode cX0_putDigits 15 = .ok (.lload_n 2, 1) := by decide +kernel
theorem dX0_putDigits_16 : decode cX0_putDigits 16 = .ok (.invokestatic 100, 3) := by decide +kernel
theorem dX0_putDigits_19 : decode cX0_putDigits 19 = .ok (.iadd, 1) := by decide +kernel
theorem dX0_putDigits_20 : decode cX0_putDigits 20 = .ok (.istore 5, 2) := by decide +kernel
theorem dX0_putDigits_22 : decode cX0_putDigits 22 = .ok (.aload_n 0, 1) := by decide +kernel
theorem dX0_putDigits_23 : decode cX0_putDigits 23 = .ok (.iload 5, 2) := by decide +kernel
theorem dX0_putDigits_25 : decode cX0_putDigits 25 = .ok (.invokevirtual 88, 3) := by decide +kernel
theorem dX0_putDigits_28 : decode cX0_putDigits 28 = .ok (.ifCond .ne 6, 3) := by decide +kernel
theorem dX0_putDigits_31 : decode cX0_putDigits 31 = .ok (.bipush (-3), 2) := by decide +kernel
theorem dX0_putDigits_33 : decode cX0_putDigits 33 = .ok (.ireturn, 1) := by decide +kernel
theorem dX0_putDigits_34 : decode cX0_putDigits 34 = .ok (.aload_n 0, 1) := by decide +kernel
theorem dX0_putDigits_35 : decode cX0_putDigits 35 = .ok (.iload_n 1, 1) := by decide +kernel
theorem dX0_putDigits_36 : decode cX0_putDigits 36 = .ok (.iload_n 1, 1) := by decide +kernel
theorem dX0_putDigits_37 : decode cX0_putDigits 37 = .ok (.iload 5, 2) := by decide +kernel
theorem dX0_putDigits_39 : decode cX0_putDigits 39 = .ok (.invokevirtual 55, 3) := by decide +kernel
theorem dX0_putDigits_42 : decode cX0_putDigits 42 = .ok (.iload 4, 2) := by decide +kernel
theorem dX0_putDigits_44 : decode cX0_putDigits 44 = .ok (.iconst 1, 1) := by decide +kernel
theorem dX0_putDigits_45 : decode cX0_putDigits 45 = .ok (.if_icmp .ne 11, 3) := by decide +kernel
theorem dX0_putDigits_48 : decode cX0_putDigits 48 = .ok (.aload_n 0, 1) := by decide +kernel
theorem dX0_putDigits_49 : decode cX0_putDigits 49 = .ok (.getfield 9, 3) := by decide +kernel
theorem dX0_putDigits_52 : decode cX0_putDigits 52 = .ok (.iload_n 1, 1) := by decide +kernel
theorem dX0_putDigits_53 : decode cX0_putDigits 53 = .ok (.bipush 45, 2) := by decide +kernel
theorem dX0_putDigits_55 : decode cX0_putDigits 55 = .ok (.iastore, 1) := by decide +kernel
theorem dX0_putDigits_56 : decode cX0_putDigits 56 = .ok (.lload_n 2, 1) := by decide +kernel
theorem dX0_putDigits_57 : decode cX0_putDigits 57 = .ok (.lstore 6, 2) := by decide +kernel
theorem dX0_putDigits_59 : decode cX0_putDigits 59 = .ok (.iload 5, 2) := by decide +kernel
theorem dX0_putDigits_61 : decode cX0_putDigits 61 = .ok (.iconst 1, 1) := by decide +kernel
theorem dX0_putDigits_62 : decode cX0_putDigits 62 = .ok (.isub, 1) := by decide +kernel
theorem dX0_putDigits_63 : decode cX0_putDigits 63 = .ok (.istore 8, 2) := by decide +kernel
theorem dX0_putDigits_65 : decode cX0_putDigits 65 = .ok (.iload 8, 2) := by decide +kernel
theorem dX0_putDigits_67 : decode cX0_putDigits 67 = .ok (.iload 4, 2) := by decide +kernel
theorem dX0_putDigits_69 : decode cX0_putDigits 69 = .ok (.if_icmp .lt 39, 3) := by decide +kernel
theorem dX0_putDigits_72 : decode cX0_putDigits 72 = .ok (.aload_n 0, 1) := by decide +kernel
theorem dX0_putDigits_73 : decode cX0_putDigits 73 = .ok (.getfield 9, 3) := by decide +kernel
theorem dX0_putDigits_76 : decode cX0_putDigits 76 = .ok (.iload_n 1, 1) := by decide +kernel
theorem dX0_putDigits_77 : decode cX0_putDigits 77 = .ok (.iload 8, 2) := by decide +kernel
theorem dX0_putDigits_79 : decode cX0_putDigits 79 = .ok (.iadd, 1) := by decide +kernel
theorem dX0_putDigits_80 : decode cX0_putDigits 80 = .ok (.bipush 48, 2) := by decide +kernel
theorem dX0_putDigits_82 : decode cX0_putDigits 82 = .ok (.lload 6, 2) := by decide +kernel
theorem dX0_putDigits_84 : decode cX0_putDigits 84 = .ok (.ldc2_w 104, 3) := by decide +kernel
theorem dX0_putDigits_87 : decode cX0_putDigits 87 = .ok (.lrem, 1) := by decide +kernel
theorem dX0_putDigits_88 : decode cX0_putDigits 88 = .ok (.l2i, 1) := by decide +kernel
theorem dX0_putDigits_89 : decode cX0_putDigits 89 = .ok (.invokestatic 106, 3) := by decide +kernel
theorem dX0_putDigits_92 : decode cX0_putDigits 92 = .ok (.iadd, 1) := by decide +kernel
theorem dX0_putDigits_93 : decode cX0_putDigits 93 = .ok (.iastore, 1) := by decide +kernel
theorem dX0_putDigits_94 : decode cX0_putDigits 94 = .ok (.lload 6, 2) := by decide +kernel
theorem dX0_putDigits_96 : decode cX0_putDigits 96 = .ok (.ldc2_w 104, 3) := by decide +kernel
theorem dX0_putDigits_99 : decode cX0_putDigits 99 = .ok (.ldiv, 1) := by decide +kernel
theorem dX0_putDigits_100 : decode cX0_putDigits 100 = .ok (.lstore 6, 2) := by decide +kernel
theorem dX0_putDigits_102 : decode cX0_putDigits 102 = .ok (.iinc 8 (-1), 3) := by decide +kernel
theorem dX0_putDigits_105 : decode cX0_putDigits 105 = .ok (.goto (-40), 3) := by decide +kernel
theorem dX0_putDigits_108 : decode cX0_putDigits 108 = .ok (.aload_n 0, 1) := by decide +kernel
theorem dX0_putDigits_109 : decode cX0_putDigits 109 = .ok (.getfield 16, 3) := by decide +kernel
theorem dX0_putDigits_112 : decode cX0_putDigits 112 = .ok (.ireturn, 1) := by decide +kernel
theorem dX0_countDigits_0 : decode cX0_countDigits 0 = .ok (.iconst 1, 1) := by decide +kernel
theorem dX0_countDigits_1 : decode cX0_countDigits 1 = .ok (.istore_n 2, 1) := by decide +kernel
theorem dX0_countDigits_2 : decode cX0_countDigits 2 = .ok (.lload_n 0, 1) := by decide +kernel
theorem dX0_countDigits_3 : decode cX0_countDigits 3 = .ok (.ldc2_w 104, 3) := by decide +kernel
theorem dX0_countDigits_6 : decode cX0_countDigits 6 = .ok (.ldiv, 1) := by decide +kernel
theorem dX0_countDigits_7 : decode cX0_countDigits 7 = .ok (.lstore_n 3, 1) := by decide +kernel
theorem dX0_countDigits_8 : decode cX0_countDigits 8 = .ok (.lload_n 3, 1) := by decide +kernel
theorem dX0_countDigits_9 : decode cX0_countDigits 9 = .ok (.lconst 0, 1) := by decide +kernel
theorem dX0_countDigits_10 : decode cX0_countDigits 10 = .ok (.lcmp, 1) := by decide +kernel
theorem dX0_countDigits_11 : decode cX0_countDigits 11 = .ok (.ifCond .eq 21, 3) := by decide +kernel
theorem dX0_countDigits_14 : decode cX0_countDigits 14 = .ok (.iload_n 2, 1) := by decide +kernel
theorem dX0_countDigits_15 : decode cX0_countDigits 15 = .ok (.bipush 19, 2) := by decide +kernel
theorem dX0_countDigits_17 : decode cX0_countDigits 17 = .ok (.if_icmp .ge 15, 3) := by decide +kernel
theorem dX0_countDigits_20 : decode cX0_countDigits 20 = .ok (.iinc 2 1, 3) := by decide +kernel
theorem dX0_countDigits_23 : decode cX0_countDigits 23 = .ok (.lload_n 3, 1) := by decide +kernel
theorem dX0_countDigits_24 : decode cX0_countDigits 24 = .ok (.ldc2_w 104, 3) := by decide +kernel
theorem dX0_countDigits_27 : decode cX0_countDigits 27 = .ok (.ldiv, 1) := by decide +kernel
theorem dX0_countDigits_28 : decode cX0_countDigits 28 = .ok (.lstore_n 3, 1) := by decide +kernel
theorem dX0_countDigits_29 : decode cX0_countDigits 29 = .ok (.goto (-21), 3) := by decide +kernel
theorem dX0_countDigits_32 : decode cX0_countDigits 32 = .ok (.iload_n 2, 1) := by decide +kernel
theorem dX0_countDigits_33 : decode cX0_countDigits 33 = .ok (.ireturn, 1) := by decide +kernel
theorem dX0_findForward_0 : decode cX0_findForward 0 = .ok (.aload_n 0, 1) := by decide +kernel
theorem dX0_findForward_1 : decode cX0_findForward 1 = .ok (.getfield 16, 3) := by decide +kernel
theorem dX0_findForward_4 : decode cX0_findForward 4 = .ok (.aload_n 0, 1) := by decide +kernel
theorem dX0_findForward_5 : decode cX0_findForward 5 = .ok (.getfield 20, 3) := by decide +kernel
theorem dX0_findForward_8 : decode cX0_findForward 8 = .ok (.isub, 1) := by decide +kernel
theorem dX0_findForward_9 : decode cX0_findForward 9 = .ok (.istore_n 2, 1) := by decide +kernel
theorem dX0_findForward_10 : decode cX0_findForward 10 = .ok (.iload_n 1, 1) := by decide +kernel
theorem dX0_findForward_11 : decode cX0_findForward 11 = .ok (.iconst 0, 1) := by decide +kernel
theorem dX0_findForward_12 : decode cX0_findForward 12 = .ok (.invokestatic 109, 3) := by decide +kernel
theorem dX0_findForward_15 : decode cX0_findForward 15 = .ok (.aload_n 0, 1) := by decide +kernel
theorem dX0_findForward_16 : decode cX0_findForward 16 = .ok (.getfield 16, 3) := by decide +kernel
theorem dX0_findForward_19 : decode cX0_findForward 19 = .ok (.invokestatic 50, 3) := by decide +kernel
theorem dX0_findForward_22 : decode cX0_findForward 22 = .ok (.istore_n 3, 1) := by decide +kernel
theorem dX0_findForward_23 : decode cX0_findForward 23 = .ok (.iload_n 3, 1) := by decide +kernel
theorem dX0_findForward_24 : decode cX0_findForward 24 = .ok (.istore 4, 2) := by decide +kernel
theorem dX0_findForward_26 : decode cX0_findForward 26 = .ok (.iload 4, 2) := by decide +kernel
theorem dX0_findForward_28 : decode cX0_findForward 28 = .ok (.iload_n 2, 1) := by decide +kernel
theorem dX0_findForward_29 : decode cX0_findForward 29 = .ok (.if_icmp .gt 21, 3) := by decide +kernel
theorem dX0_findForward_32 : decode cX0_findForward 32 = .ok (.aload_n 0, 1) := by decide +kernel
theorem dX0_findForward_33 : decode cX0_findForward 33 = .ok (.iload 4, 2) := by decide +kernel
theorem dX0_findForward_35 : decode cX0_findForward 35 = .ok (.invokevirtual 112, 3) := by decide +kernel
theorem dX0_findForward_38 : decode cX0_findForward 38 = .ok (.ifCond .eq 6, 3) := by decide +kernel
theorem dX0_findForward_41 : decode cX0_findForward 41 = .ok (.iload 4, 2) := by decide +kernel
theorem dX0_findForward_43 : decode cX0_findForward 43 = .ok (.ireturn, 1) := by decide +kernel
theorem dX0_findForward_44 : decode cX0_findForward 44 = .ok (.iinc 4 1, 3) := by decide +kernel
theorem dX0_findForward_47 : decode cX0_findForward 47 = .ok (.goto (-21), 3) := by decide +kernel
theorem dX0_findForward_50 : decode cX0_findForward 50 = .ok (.iconst (-1), 1) := by decide +kernel
theorem dX0_findForward_51 : decode cX0_findForward 51 = .ok (.ireturn, 1) := by decide +kernel
theorem dX0_findBackward_0 : decode cX0_findBackward 0 = .ok (.iload_n 1, 1) := by decide +kernel
theorem dX0_findBackward_1 : decode cX0_findBackward 1 = .ok (.aload_n 0, 1) := by decide +kernel
theorem dX0_findBackward_2 : decode cX0_findBackward 2 = .ok (.getfield 16, 3) := by decide +kernel
theorem dX0_findBackward_5 : decode cX0_findBackward 5 = .ok (.aload_n 0, 1) := by decide +kernel
theorem dX0_findBackward_6 : decode cX0_findBackward 6 = .ok (.getfield 20, 3) := by decide +kernel
theorem dX0_findBackward_9 : decode cX0_findBackward 9 = .ok (.isub, 1) := by decide +kernel
theorem dX0_findBackward_10 : decode cX0_findBackward 10 = .ok (.invokestatic 50, 3) := by decide +kernel
theorem dX0_findBackward_13 : decode cX0_findBackward 13 = .ok (.istore_n 2, 1) := by decide +kernel
theorem dX0_findBackward_14 : decode cX0_findBackward 14 = .ok (.iload_n 2, 1) := by decide +kernel
theorem dX0_findBackward_15 : decode cX0_findBackward 15 = .ok (.istore_n 3, 1) := by decide +kernel
theorem dX0_findBackward_16 : decode cX0_findBackward 16 = .ok (.iload_n 3, 1) := by decide +kernel
theorem dX0_findBackward_17 : decode cX0_findBackward 17 = .ok (.ifCond .lt 19, 3) := by decide +kernel
theorem dX0_findBackward_20 : decode cX0_findBackward 20 = .ok (.aload_n 0, 1) := by decide +kernel
theorem dX0_findBackward_21 : decode cX0_findBackward 21 = .ok (.iload_n 3, 1) := by decide +kernel
theorem dX0_findBackward_22 : decode cX0_findBackward 22 = .ok (.invokevirtual 112, 3) := by decide +kernel
theorem dX0_findBackward_25 : decode cX0_findBackward 25 = .ok (.ifCond .eq 5, 3) := by decide +kernel
theorem dX0_findBackward_28 : decode cX0_findBackward 28 = .ok (.iload_n 3, 1) := by decide +kernel
theorem dX0_findBackward_29 : decode cX0_findBackward 29 = .ok (.ireturn, 1) := by decide +kernel
theorem dX0_findBackward_30 : decode cX0_findBackward 30 = .ok (.iinc 3 (-1), 3) := by decide +kernel
theorem dX0_findBackward_33 : decode cX0_findBackward 33 = .ok (.goto (-17), 3) := by decide +kernel
theorem dX0_findBackward_36 : decode cX0_findBackward 36 = .ok (.iconst (-1), 1) := by decide +kernel
theorem dX0_findBackward_37 : decode cX0_findBackward 37 = .ok (.ireturn, 1) := by decide +kernel
theorem dX0_scrapStandsAt_0 : decode cX0_scrapStandsAt 0 = .ok (.iconst 0, 1) := by decide +kernel
theorem dX0_scrapStandsAt_1 : decode cX0_scrapStandsAt 1 = .ok (.istore_n 2, 1) := by decide +kernel
theorem dX0_scrapStandsAt_2 : decode cX0_scrapStandsAt 2 = .ok (.iload_n 2, 1) := by decide +kernel
theorem dX0_scrapStandsAt_3 : decode cX0_scrapStandsAt 3 = .ok (.aload_n 0, 1) := by decide +kernel
theorem dX0_scrapStandsAt_4 : decode cX0_scrapStandsAt 4 = .ok (.getfield 20, 3) := by decide +kernel
theorem dX0_scrapStandsAt_7 : decode cX0_scrapStandsAt 7 = .ok (.if_icmp .ge 28, 3) := by decide +kernel
theorem dX0_scrapStandsAt_10 : decode cX0_scrapStandsAt 10 = .ok (.aload_n 0, 1) := by decide +kernel
theorem dX0_scrapStandsAt_11 : decode cX0_scrapStandsAt 11 = .ok (.getfield 9, 3) := by decide +kernel
theorem dX0_scrapStandsAt_14 : decode cX0_scrapStandsAt 14 = .ok (.iload_n 1, 1) := by decide +kernel
theorem dX0_scrapStandsAt_15 : decode cX0_scrapStandsAt 15 = .ok (.iload_n 2, 1) := by decide +kernel
theorem dX0_scrapStandsAt_16 : decode cX0_scrapStandsAt 16 = .ok (.iadd, 1) := by decide +kernel
theorem dX0_scrapStandsAt_17 : decode cX0_scrapStandsAt 17 = .ok (.iaload, 1) := by decide +kernel
theorem dX0_scrapStandsAt_18 : decode cX0_scrapStandsAt 18 = .ok (.aload_n 0, 1) := by decide +kernel
theorem dX0_scrapStandsAt_19 : decode cX0_scrapStandsAt 19 = .ok (.getfield 13, 3) := by decide +kernel
theorem dX0_scrapStandsAt_22 : decode cX0_scrapStandsAt 22 = .ok (.iload_n 2, 1) := by decide +kernel
theorem dX0_scrapStandsAt_23 : decode cX0_scrapStandsAt 23 = .ok (.iaload, 1) := by decide +kernel
theorem dX0_scrapStandsAt_24 : decode cX0_scrapStandsAt 24 = .ok (.if_icmp .eq 5, 3) := by decide +kernel
theorem dX0_scrapStandsAt_27 : decode cX0_scrapStandsAt 27 = .ok (.iconst 0, 1) := by decide +kernel
theorem dX0_scrapStandsAt_28 : decode cX0_scrapStandsAt 28 = .ok (.ireturn, 1) := by decide +kernel
theorem dX0_scrapStandsAt_29 : decode cX0_scrapStandsAt 29 = .ok (.iinc 2 1, 3) := by decide +kernel
theorem dX0_scrapStandsAt_32 : decode cX0_scrapStandsAt 32 = .ok (.goto (-30), 3) := by decide +kernel
theorem dX0_scrapStandsAt_35 : decode cX0_scrapStandsAt 35 = .ok (.iconst 1, 1) := by decide +kernel
theorem dX0_scrapStandsAt_36 : decode cX0_scrapStandsAt 36 = .ok (.ireturn, 1) := by decide +kernel
theorem dX0_sumOfText_0 : decode cX0_sumOfText 0 = .ok (.iconst 0, 1) := by decide +kernel
theorem dX0_sumOfText_1 : decode cX0_sumOfText 1 = .ok (.istore_n 1, 1) := by decide +kernel
theorem dX0_sumOfText_2 : decode cX0_sumOfText 2 = .ok (.iconst 0, 1) := by decide +kernel
theorem dX0_sumOfText_3 : decode cX0_sumOfText 3 = .ok (.istore_n 2, 1) := by decide +kernel
theorem dX0_sumOfText_4 : decode cX0_sumOfText 4 = .ok (.iload_n 2, 1) := by decide +kernel
theorem dX0_sumOfText_5 : decode cX0_sumOfText 5 = .ok (.aload_n 0, 1) := by decide +kernel
theorem dX0_sumOfText_6 : decode cX0_sumOfText 6 = .ok (.getfield 16, 3) := by decide +kernel
theorem dX0_sumOfText_9 : decode cX0_sumOfText 9 = .ok (.if_icmp .ge 22, 3) := by decide +kernel
theorem dX0_sumOfText_12 : decode cX0_sumOfText 12 = .ok (.iload_n 1, 1) := by decide +kernel
theorem dX0_sumOfText_13 : decode cX0_sumOfText 13 = .ok (.iload_n 2, 1) := by decide +kernel
theorem dX0_sumOfText_14 : decode cX0_sumOfText 14 = .ok (.iconst 1, 1) := by decide +kernel
theorem dX0_sumOfText_15 : decode cX0_sumOfText 15 = .ok (.iadd, 1) := by decide +kernel
theorem dX0_sumOfText_16 : decode cX0_sumOfText 16 = .ok (.aload_n 0, 1) := by decide +kernel
theorem dX0_sumOfText_17 : decode cX0_sumOfText 17 = .ok (.getfield 9, 3) := by decide +kernel
theorem dX0_sumOfText_20 : decode cX0_sumOfText 20 = .ok (.iload_n 2, 1) := by decide +kernel
theorem dX0_sumOfText_21 : decode cX0_sumOfText 21 = .ok (.iaload, 1) := by decide +kernel
theorem dX0_sumOfText_22 : decode cX0_sumOfText 22 = .ok (.imul, 1) := by decide +kernel
theorem dX0_sumOfText_23 : decode cX0_sumOfText 23 = .ok (.iadd, 1) := by decide +kernel
theorem dX0_sumOfText_24 : decode cX0_sumOfText 24 = .ok (.istore_n 1, 1) := by decide +kernel
theorem dX0_sumOfText_25 : decode cX0_sumOfText 25 = .ok (.iinc 2 1, 3) := by decide +kernel
theorem dX0_sumOfText_28 : decode cX0_sumOfText 28 = .ok (.goto (-24), 3) := by decide +kernel
theorem dX0_sumOfText_31 : decode cX0_sumOfText 31 = .ok (.iload_n 1, 1) := by decide +kernel
theorem dX0_sumOfText_32 : decode cX0_sumOfText 32 = .ok (.ireturn, 1) := by decide +kernel
theorem dJ9_abs_0f7a4_0 : decode cJ9_abs_0f7a4 0 = .ok (.iload_n 0, 1) := by decide +kernel
theorem dJ9_abs_0f7a4_1 : decode cJ9_abs_0f7a4 1 = .ok (.ifCond .ge 8, 3) := by decide +kernel
theorem dJ9_abs_0f7a4_4 : decode cJ9_abs_0f7a4 4 = .ok (.iload_n 0, 1) := by decide +kernel
theorem dJ9_abs_0f7a4_5 : decode cJ9_abs_0f7a4 5 = .ok (.ineg, 1) := by decide +kernel
theorem dJ9_abs_0f7a4_6 : decode cJ9_abs_0f7a4 6 = .ok (.goto 4, 3) := by decide +kernel
theorem dJ9_abs_0f7a4_9 : decode cJ9_abs_0f7a4 9 = .ok (.iload_n 0, 1) := by decide +kernel
theorem dJ9_abs_0f7a4_10 : decode cJ9_abs_0f7a4 10 = .ok (.ireturn, 1) := by decide +kernel
theorem dJ9_max_7cf53_0 : decode cJ9_max_7cf53 0 = .ok (.iload_n 0, 1) := by decide +kernel
theorem dJ9_max_7cf53_1 : decode cJ9_max_7cf53 1 = .ok (.iload_n 1, 1) := by decide +kernel
theorem dJ9_max_7cf53_2 : decode cJ9_max_7cf53 2 = .ok (.if_icmp .lt 7, 3) := by decide +kernel
theorem dJ9_max_7cf53_5 : decode cJ9_max_7cf53 5 = .ok (.iload_n 0, 1) := by decide +kernel
theorem dJ9_max_7cf53_6 : decode cJ9_max_7cf53 6 = .ok (.goto 4, 3) := by decide +kernel
theorem dJ9_max_7cf53_9 : decode cJ9_max_7cf53 9 = .ok (.iload_n 1, 1) := by decide +kernel
theorem dJ9_max_7cf53_10 : decode cJ9_max_7cf53 10 = .ok (.ireturn, 1) := by decide +kernel
theorem dJ9_min_7cf53_0 : decode cJ9_min_7cf53 0 = .ok (.iload_n 0, 1) := by decide +kernel
theorem dJ9_min_7cf53_1 : decode cJ9_min_7cf53 1 = .ok (.iload_n 1, 1) := by decide +kernel
theorem dJ9_min_7cf53_2 : decode cJ9_min_7cf53 2 = .ok (.if_icmp .gt 7, 3) := by decide +kernel
theorem dJ9_min_7cf53_5 : decode cJ9_min_7cf53 5 = .ok (.iload_n 0, 1) := by decide +kernel
theorem dJ9_min_7cf53_6 : decode cJ9_min_7cf53 6 = .ok (.goto 4, 3) := by decide +kernel
theorem dJ9_min_7cf53_9 : decode cJ9_min_7cf53 9 = .ok (.iload_n 1, 1) := by decide +kernel
theorem dJ9_min_7cf53_10 : decode cJ9_min_7cf53 10 = .ok (.ireturn, 1) := by decide +kernel
theorem dJ0_length_8abf5_0 : decode cJ0_length_8abf5 0 = .ok (.aload_n 0, 1) := by decide +kernel
theorem dJ0_length_8abf5_1 : decode cJ0_length_8abf5 1 = .ok (.getfield 9, 3) := by decide +kernel
theorem dJ0_length_8abf5_4 : decode cJ0_length_8abf5 4 = .ok (.arraylength, 1) := by decide +kernel
theorem dJ0_length_8abf5_5 : decode cJ0_length_8abf5 5 = .ok (.aload_n 0, 1) := by decide +kernel
theorem dJ0_length_8abf5_6 : decode cJ0_length_8abf5 6 = .ok (.invokevirtual 335, 3) := by decide +kernel
theorem dJ0_length_8abf5_9 : decode cJ0_length_8abf5 9 = .ok (.ishr, 1) := by decide +kernel
theorem dJ0_length_8abf5_10 : decode cJ0_length_8abf5 10 = .ok (.ireturn, 1) := by decide +kernel
theorem dJ0_charAt_5068e_0 : decode cJ0_charAt_5068e 0 = .ok (.aload_n 0, 1) := by decide +kernel
theorem dJ0_charAt_5068e_1 : decode cJ0_charAt_5068e 1 = .ok (.invokevirtual 492, 3) := by decide +kernel
theorem dJ0_charAt_5068e_4 : decode cJ0_charAt_5068e 4 = .ok (.ifCond .eq 12, 3) := by decide +kernel
theorem dJ0_charAt_5068e_7 : decode cJ0_charAt_5068e 7 = .ok (.aload_n 0, 1) := by decide +kernel
theorem dJ0_charAt_5068e_8 : decode cJ0_charAt_5068e 8 = .ok (.getfield 9, 3) := by decide +kernel
theorem dJ0_charAt_5068e_11 : decode cJ0_charAt_5068e 11 = .ok (.iload_n 1, 1) := by decide +kernel
theorem dJ0_charAt_5068e_12 : decode cJ0_charAt_5068e 12 = .ok (.invokestatic 495, 3) := by decide +kernel
theorem dJ0_charAt_5068e_15 : decode cJ0_charAt_5068e 15 = .ok (.ireturn, 1) := by decide +kernel
theorem dJ0_charAt_5068e_16 : decode cJ0_charAt_5068e 16 = .ok (.aload_n 0, 1) := by decide +kernel
theorem dJ0_charAt_5068e_17 : decode cJ0_charAt_5068e 17 = .ok (.getfield 9, 3) := by decide +kernel
theorem dJ0_charAt_5068e_20 : decode cJ0_charAt_5068e 20 = .ok (.iload_n 1, 1) := by decide +kernel
theorem dJ0_charAt_5068e_21 : decode cJ0_charAt_5068e 21 = .ok (.invokestatic 498, 3) := by decide +kernel
theorem dJ0_charAt_5068e_24 : decode cJ0_charAt_5068e 24 = .ok (.ireturn, 1) := by decide +kernel
theorem dJ0_coder_7d493_0 : decode cJ0_coder_7d493 0 = .ok (.getstatic 38, 3) := by decide +kernel
theorem dJ0_coder_7d493_3 : decode cJ0_coder_7d493 3 = .ok (.ifCond .eq 10, 3) := by decide +kernel
theorem dJ0_coder_7d493_6 : decode cJ0_coder_7d493 6 = .ok (.aload_n 0, 1) := by decide +kernel
theorem dJ0_coder_7d493_7 : decode cJ0_coder_7d493 7 = .ok (.getfield 15, 3) := by decide +kernel
theorem dJ0_coder_7d493_10 : decode cJ0_coder_7d493 10 = .ok (.goto 4, 3) := by decide +kernel
theorem dJ0_coder_7d493_13 : decode cJ0_coder_7d493 13 = .ok (.iconst 1, 1) := by decide +kernel
theorem dJ0_coder_7d493_14 : decode cJ0_coder_7d493 14 = .ok (.ireturn, 1) := by decide +kernel
theorem dJ0_isLatin1_aae02_0 : decode cJ0_isLatin1_aae02 0 = .ok (.getstatic 38, 3) := by decide +kernel
theorem dJ0_isLatin1_aae02_3 : decode cJ0_isLatin1_aae02 3 = .ok (.ifCond .eq 14, 3) := by decide +kernel
theorem dJ0_isLatin1_aae02_6 : decode cJ0_isLatin1_aae02 6 = .ok (.aload_n 0, 1) := by decide +kernel
theorem dJ0_isLatin1_aae02_7 : decode cJ0_isLatin1_aae02 7 = .ok (.getfield 15, 3) := by decide +kernel
theorem dJ0_isLatin1_aae02_10 : decode cJ0_isLatin1_aae02 10 = .ok (.ifCond .ne 7, 3) := by decide +kernel
theorem dJ0_isLatin1_aae02_13 : decode cJ0_isLatin1_aae02 13 = .ok (.iconst 1, 1) := by decide +kernel
theorem dJ0_isLatin1_aae02_14 : decode cJ0_isLatin1_aae02 14 = .ok (.goto 4, 3) := by decide +kernel
theorem dJ0_isLatin1_aae02_17 : decode cJ0_isLatin1_aae02 17 = .ok (.iconst 0, 1) := by decide +kernel
theorem dJ0_isLatin1_aae02_18 : decode cJ0_isLatin1_aae02 18 = .ok (.ireturn, 1) := by decide +kernel
theorem dJ0_checkIndex_df160_0 : decode cJ0_checkIndex_df160 0 = .ok (.iload_n 0, 1) := by decide +kernel
theorem dJ0_checkIndex_df160_1 : decode cJ0_checkIndex_df160 1 = .ok (.iload_n 1, 1) := by decide +kernel
theorem dJ0_checkIndex_df160_2 : decode cJ0_checkIndex_df160 2 = .ok (.getstatic 1053, 3) := by decide +kernel
theorem dJ0_checkIndex_df160_5 : decode cJ0_checkIndex_df160 5 = .ok (.invokestatic 1059, 3) := by decide +kernel
theorem dJ0_checkIndex_df160_8 : decode cJ0_checkIndex_df160 8 = .ok (.pop, 1) := by decide +kernel
theorem dJ0_checkIndex_df160_9 : decode cJ0_checkIndex_df160 9 = .ok (.return_, 1) := by decide +kernel
theorem dJ1_charAt_3b067_0 : decode cJ1_charAt_3b067 0 = .ok (.iload_n 1, 1) := by decide +kernel
theorem dJ1_charAt_3b067_1 : decode cJ1_charAt_3b067 1 = .ok (.aload_n 0, 1) := by decide +kernel
theorem dJ1_charAt_3b067_2 : decode cJ1_charAt_3b067 2 = .ok (.arraylength, 1) := by decide +kernel
theorem dJ1_charAt_3b067_3 : decode cJ1_charAt_3b067 3 = .ok (.invokestatic 9, 3) := by decide +kernel
theorem dJ1_charAt_3b067_6 : decode cJ1_charAt_3b067 6 = .ok (.aload_n 0, 1) := by decide +kernel
theorem dJ1_charAt_3b067_7 : decode cJ1_charAt_3b067 7 = .ok (.iload_n 1, 1) := by decide +kernel
theorem dJ1_charAt_3b067_8 : decode cJ1_charAt_3b067 8 = .ok (.baload, 1) := by decide +kernel
theorem dJ1_charAt_3b067_9 : decode cJ1_charAt_3b067 9 = .ok (.sipush 255, 3) := by decide +kernel
theorem dJ1_charAt_3b067_12 : decode cJ1_charAt_3b067 12 = .ok (.iand, 1) := by decide +kernel
theorem dJ1_charAt_3b067_13 : decode cJ1_charAt_3b067 13 = .ok (.i2c, 1) := by decide +kernel
theorem dJ1_charAt_3b067_14 : decode cJ1_charAt_3b067 14 = .ok (.ireturn, 1) := by decide +kernel
theorem dJ2_getChar_3b067_0 : decode cJ2_getChar_3b067 0 = .ok (.getstatic 44, 3) := by decide +kernel
theorem dJ2_getChar_3b067_3 : decode cJ2_getChar_3b067 3 = .ok (.ifCond .ne 25, 3) := by decide +kernel
theorem dJ2_getChar_3b067_6 : decode cJ2_getChar_3b067 6 = .ok (.iload_n 1, 1) := by decide +kernel
theorem dJ2_getChar_3b067_7 : decode cJ2_getChar_3b067 7 = .ok (.ifCond .lt 11, 3) := by decide +kernel
theorem dJ2_getChar_3b067_10 : decode cJ2_getChar_3b067 10 = .ok (.iload_n 1, 1) := by decide +kernel
theorem dJ2_getChar_3b067_11 : decode cJ2_getChar_3b067 11 = .ok (.aload_n 0, 1) := by decide +kernel
theorem dJ2_getChar_3b067_12 : decode cJ2_getChar_3b067 12 = .ok (.invokestatic 48, 3) := by decide +kernel
theorem dJ2_getChar_3b067_15 : decode cJ2_getChar_3b067 15 = .ok (.if_icmp .lt 13, 3) := by decide +kernel
theorem dJ2_getChar_3b067_18 : decode cJ2_getChar_3b067 18 = .ok (.new 52, 3) := by decide +kernel
theorem dJ2_getChar_3b067_21 : decode cJ2_getChar_3b067 21 = .ok (.dup, 1) := by decide +kernel
theorem dJ2_getChar_3b067_22 : decode cJ2_getChar_3b067 22 = .ok (.ldc 54, 2) := by decide +kernel
theorem dJ2_getChar_3b067_24 : decode cJ2_getChar_3b067 24 = .ok (.invokespecial 56, 3) := by decide +kernel
theorem dJ2_getChar_3b067_27 : decode cJ2_getChar_3b067 27 = .ok (.athrow, 1) := by decide +kernel
theorem dJ2_getChar_3b067_28 : decode cJ2_getChar_3b067 28 = .ok (.iload_n 1, 1) := by decide +kernel
theorem dJ2_getChar_3b067_29 : decode cJ2_getChar_3b067 29 = .ok (.iconst 1, 1) := by decide +kernel
theorem dJ2_getChar_3b067_30 : decode cJ2_getChar_3b067 30 = .ok (.ishl, 1) := by decide +kernel
theorem dJ2_getChar_3b067_31 : decode cJ2_getChar_3b067 31 = .ok (.istore_n 1, 1) := by decide +kernel
theorem dJ2_getChar_3b067_32 : decode cJ2_getChar_3b067 32 = .ok (.aload_n 0, 1) := by decide +kernel
theorem dJ2_getChar_3b067_33 : decode cJ2_getChar_3b067 33 = .ok (.iload_n 1, 1) := by decide +kernel
theorem dJ2_getChar_3b067_34 : decode cJ2_getChar_3b067 34 = .ok (.iinc 1 1, 3) := by decide +kernel
theorem dJ2_getChar_3b067_37 : decode cJ2_getChar_3b067 37 = .ok (.baload, 1) := by decide +kernel
theorem dJ2_getChar_3b067_38 : decode cJ2_getChar_3b067 38 = .ok (.sipush 255, 3) := by decide +kernel
theorem dJ2_getChar_3b067_41 : decode cJ2_getChar_3b067 41 = .ok (.iand, 1) := by decide +kernel
theorem dJ2_getChar_3b067_42 : decode cJ2_getChar_3b067 42 = .ok (.getstatic 59, 3) := by decide +kernel
theorem dJ2_getChar_3b067_45 : decode cJ2_getChar_3b067 45 = .ok (.ishl, 1) := by decide +kernel
theorem dJ2_getChar_3b067_46 : decode cJ2_getChar_3b067 46 = .ok (.aload_n 0, 1) := by decide +kernel
theorem dJ2_getChar_3b067_47 : decode cJ2_getChar_3b067 47 = .ok (.iload_n 1, 1) := by decide +kernel
theorem dJ2_getChar_3b067_48 : decode cJ2_getChar_3b067 48 = .ok (.baload, 1) := by decide +kernel
theorem dJ2_getChar_3b067_49 : decode cJ2_getChar_3b067 49 = .ok (.sipush 255, 3) := by decide +kernel
theorem dJ2_getChar_3b067_52 : decode cJ2_getChar_3b067 52 = .ok (.iand, 1) := by decide +kernel
theorem dJ2_getChar_3b067_53 : decode cJ2_getChar_3b067 53 = .ok (.getstatic 63, 3) := by decide +kernel
theorem dJ2_getChar_3b067_56 : decode cJ2_getChar_3b067 56 = .ok (.ishl, 1) := by decide +kernel
theorem dJ2_getChar_3b067_57 : decode cJ2_getChar_3b067 57 = .ok (.ior, 1) := by decide +kernel
theorem dJ2_getChar_3b067_58 : decode cJ2_getChar_3b067 58 = .ok (.i2c, 1) := by decide +kernel
theorem dJ2_getChar_3b067_59 : decode cJ2_getChar_3b067 59 = .ok (.ireturn, 1) := by decide +kernel
theorem dJ2_length_9d52b_0 : decode cJ2_length_9d52b 0 = .ok (.aload_n 0, 1) := by decide +kernel
theorem dJ2_length_9d52b_1 : decode cJ2_length_9d52b 1 = .ok (.arraylength, 1) := by decide +kernel
theorem dJ2_length_9d52b_2 : decode cJ2_length_9d52b 2 = .ok (.iconst 1, 1) := by decide +kernel
theorem dJ2_length_9d52b_3 : decode cJ2_length_9d52b 3 = .ok (.ishr, 1) := by decide +kernel
theorem dJ2_length_9d52b_4 : decode cJ2_length_9d52b 4 = .ok (.ireturn, 1) := by decide +kernel
theorem dJ2_charAt_3b067_0 : decode cJ2_charAt_3b067 0 = .ok (.iload_n 1, 1) := by decide +kernel
theorem dJ2_charAt_3b067_1 : decode cJ2_charAt_3b067 1 = .ok (.aload_n 0, 1) := by decide +kernel
theorem dJ2_charAt_3b067_2 : decode cJ2_charAt_3b067 2 = .ok (.invokestatic 67, 3) := by decide +kernel
theorem dJ2_charAt_3b067_5 : decode cJ2_charAt_3b067 5 = .ok (.aload_n 0, 1) := by decide +kernel
theorem dJ2_charAt_3b067_6 : decode cJ2_charAt_3b067 6 = .ok (.iload_n 1, 1) := by decide +kernel
theorem dJ2_charAt_3b067_7 : decode cJ2_charAt_3b067 7 = .ok (.invokestatic 71, 3) := by decide +kernel
theorem dJ2_charAt_3b067_10 : decode cJ2_charAt_3b067 10 = .ok (.ireturn, 1) := by decide +kernel
theorem dJ2_checkIndex_2214a_0 : decode cJ2_checkIndex_2214a 0 = .ok (.iload_n 0, 1) := by decide +kernel
theorem dJ2_checkIndex_2214a_1 : decode cJ2_checkIndex_2214a 1 = .ok (.aload_n 1, 1) := by decide +kernel
theorem dJ2_checkIndex_2214a_2 : decode cJ2_checkIndex_2214a 2 = .ok (.invokestatic 48, 3) := by decide +kernel
theorem dJ2_checkIndex_2214a_5 : decode cJ2_checkIndex_2214a 5 = .ok (.invokestatic 414, 3) := by decide +kernel
theorem dJ2_checkIndex_2214a_8 : decode cJ2_checkIndex_2214a 8 = .ok (.return_, 1) := by decide +kernel
theorem dJ3_checkIndex_8e157_0 : decode cJ3_checkIndex_8e157 0 = .ok (.iload_n 0, 1) := by decide +kernel
theorem dJ3_checkIndex_8e157_1 : decode cJ3_checkIndex_8e157 1 = .ok (.ifCond .lt 8, 3) := by decide +kernel
theorem dJ3_checkIndex_8e157_4 : decode cJ3_checkIndex_8e157 4 = .ok (.iload_n 0, 1) := by decide +kernel
theorem dJ3_checkIndex_8e157_5 : decode cJ3_checkIndex_8e157 5 = .ok (.iload_n 1, 1) := by decide +kernel
theorem dJ3_checkIndex_8e157_6 : decode cJ3_checkIndex_8e157 6 = .ok (.if_icmp .lt 10, 3) := by decide +kernel
theorem dJ3_checkIndex_8e157_9 : decode cJ3_checkIndex_8e157 9 = .ok (.aload_n 2, 1) := by decide +kernel
theorem dJ3_checkIndex_8e157_10 : decode cJ3_checkIndex_8e157 10 = .ok (.iload_n 0, 1) := by decide +kernel
theorem dJ3_checkIndex_8e157_11 : decode cJ3_checkIndex_8e157 11 = .ok (.iload_n 1, 1) := by decide +kernel
theorem dJ3_checkIndex_8e157_12 : decode cJ3_checkIndex_8e157 12 = .ok (.invokestatic 95, 3) := by decide +kernel
theorem dJ3_checkIndex_8e157_15 : decode cJ3_checkIndex_8e157 15 = .ok (.athrow, 1) := by decide +kernel
theorem dJ3_checkIndex_8e157_16 : decode cJ3_checkIndex_8e157 16 = .ok (.iload_n 0, 1) := by decide +kernel
theorem dJ3_checkIndex_8e157_17 : decode cJ3_checkIndex_8e157 17 = .ok (.ireturn, 1) := by decide +kernel
end
section
theorem dL_law_0 : decode cL_law 0 = .ok (.new 7, 3) := by decide +kernel
theorem dL_law_3 : decode cL_law 3 = .ok (.dup, 1) := by decide +kernel
theorem dL_law_4 : decode cL_law 4 = .ok (.invokespecial 9, 3) := by decide +kernel
theorem dL_law_7 : decode cL_law 7 = .ok (.astore_n 1, 1) := by decide +kernel
theorem dL_law_8 : decode cL_law 8 = .ok (.new 10, 3) := by decide +kernel
theorem dL_law_11 : decode cL_law 11 = .ok (.dup, 1) := by decide +kernel
theorem dL_law_12 : decode cL_law 12 = .ok (.invokespecial 12, 3) := by decide +kernel
theorem dL_law_15 : decode cL_law 15 = .ok (.astore_n 2, 1) := by decide +kernel
theorem dL_law_16 : decode cL_law 16 = .ok (.iconst 0, 1) := by decide +kernel
theorem dL_law_17 : decode cL_law 17 = .ok (.istore_n 3, 1) := by decide +kernel
theorem dL_law_18 : decode cL_law 18 = .ok (.iload_n 3, 1) := by decide +kernel
theorem dL_law_19 : decode cL_law 19 = .ok (.aload_n 0, 1) := by decide +kernel
theorem dL_law_20 : decode cL_law 20 = .ok (.arraylength, 1) := by decide +kernel
theorem dL_law_21 : decode cL_law 21 = .ok (.iconst 5, 1) := by decide +kernel
theorem dL_law_22 : decode cL_law 22 = .ok (.isub, 1) := by decide +kernel
theorem dL_law_23 : decode cL_law 23 = .ok (.if_icmp .gt 605, 3) := by decide +kernel
theorem dL_law_26 : decode cL_law 26 = .ok (.aload_n 0, 1) := by decide +kernel
theorem dL_law_27 : decode cL_law 27 = .ok (.iload_n 3, 1) := by decide +kernel
theorem dL_law_28 : decode cL_law 28 = .ok (.iaload, 1) := by decide +kernel
theorem dL_law_29 : decode cL_law 29 = .ok (.bipush 15, 2) := by decide +kernel
theorem dL_law_31 : decode cL_law 31 = .ok (.iand, 1) := by decide +kernel
theorem dL_law_32 : decode cL_law 32 = .ok (.tableswitch 590 0 15 #[80, 103, 116, 179, 268, 301, 334, 357, 390, 413, 426, 475, 498, 531, 554, 577], 80) := by decide +kernel
theorem dL_law_112 : decode cL_law 112 = .ok (.aload_n 1, 1) := by decide +kernel
theorem dL_law_113 : decode cL_law 113 = .ok (.aload_n 0, 1) := by decide +kernel
theorem dL_law_114 : decode cL_law 114 = .ok (.iload_n 3, 1) := by decide +kernel
theorem dL_law_115 : decode cL_law 115 = .ok (.iconst 1, 1) := by decide +kernel
theorem dL_law_116 : decode cL_law 116 = .ok (.iadd, 1) := by decide +kernel
theorem dL_law_117 : decode cL_law 117 = .ok (.iaload, 1) := by decide +kernel
theorem dL_law_118 : decode cL_law 118 = .ok (.invokevirtual 13, 3) := by decide +kernel
theorem dL_law_121 : decode cL_law 121 = .ok (.aload_n 2, 1) := by decide +kernel
theorem dL_law_122 : decode cL_law 122 = .ok (.aload_n 0, 1) := by decide +kernel
theorem dL_law_123 : decode cL_law 123 = .ok (.iload_n 3, 1) := by decide +kernel
theorem dL_law_124 : decode cL_law 124 = .ok (.iconst 1, 1) := by decide +kernel
theorem dL_law_125 : decode cL_law 125 = .ok (.iadd, 1) := by decide +kernel
theorem dL_law_126 : decode cL_law 126 = .ok (.iaload, 1) := by decide +kernel
theorem dL_law_127 : decode cL_law 127 = .ok (.invokevirtual 17, 3) := by decide +kernel
theorem dL_law_130 : decode cL_law 130 = .ok (.if_icmp .eq 492, 3) := by decide +kernel
theorem dL_law_133 : decode cL_law 133 = .ok (.iconst 0, 1) := by decide +kernel
theorem dL_law_134 : decode cL_law 134 = .ok (.ireturn, 1) := by decide +kernel
theorem dL_law_135 : decode cL_law 135 = .ok (.aload_n 1, 1) := by decide +kernel
theorem dL_law_136 : decode cL_law 136 = .ok (.invokevirtual 18, 3) := by decide +kernel
theorem dL_law_139 : decode cL_law 139 = .ok (.aload_n 2, 1) := by decide +kernel
theorem dL_law_140 : decode cL_law 140 = .ok (.invokevirtual 22, 3) := by decide +kernel
theorem dL_law_143 : decode cL_law 143 = .ok (.if_icmp .eq 479, 3) := by decide +kernel
theorem dL_law_146 : decode cL_law 146 = .ok (.iconst 0, 1) := by decide +kernel
theorem dL_law_147 : decode cL_law 147 = .ok (.ireturn, 1) := by decide +kernel
theorem dL_law_148 : decode cL_law 148 = .ok (.aload_n 1, 1) := by decide +kernel
theorem dL_law_149 : decode cL_law 149 = .ok (.aload_n 0, 1) := by decide +kernel
theorem dL_law_150 : decode cL_law 150 = .ok (.iload_n 3, 1) := by decide +kernel
theorem dL_law_151 : decode cL_law 151 = .ok (.iconst 1, 1) := by decide +kernel
theorem dL_law_152 : decode cL_law 152 = .ok (.iadd, 1) := by decide +kernel
theorem dL_law_153 : decode cL_law 153 = .ok (.iaload, 1) := by decide +kernel
theorem dL_law_154 : decode cL_law 154 = .ok (.aload_n 0, 1) := by decide +kernel
theorem dL_law_155 : decode cL_law 155 = .ok (.iload_n 3, 1) := by decide +kernel
theorem dL_law_156 : decode cL_law 156 = .ok (.iconst 2, 1) := by decide +kernel
theorem dL_law_157 : decode cL_law 157 = .ok (.iadd, 1) := by decide +kernel
theorem dL_law_158 : decode cL_law 158 = .ok (.iaload, 1) := by decide +kernel
theorem dL_law_159 : decode cL_law 159 = .ok (.i2l, 1) := by decide +kernel
theorem dL_law_160 : decode cL_law 160 = .ok (.bipush 32, 2) := by decide +kernel
theorem dL_law_162 : decode cL_law 162 = .ok (.lshl, 1) := by decide +kernel
theorem dL_law_163 : decode cL_law 163 = .ok (.aload_n 0, 1) := by decide +kernel
theorem dL_law_164 : decode cL_law 164 = .ok (.iload_n 3, 1) := by decide +kernel
theorem dL_law_165 : decode cL_law 165 = .ok (.iconst 3, 1) := by decide +kernel
theorem dL_law_166 : decode cL_law 166 = .ok (.iadd, 1) := by decide +kernel
theorem dL_law_167 : decode cL_law 167 = .ok (.iaload, 1) := by decide +kernel
theorem dL_law_168 : decode cL_law 168 = .ok (.i2l, 1) := by decide +kernel
theorem dL_law_169 : decode cL_law 169 = .ok (.ldc2_w 23, 3) := by decide +kernel
theorem dL_law_172 : decode cL_law 172 = .ok (.land, 1) := by decide +kernel
theorem dL_law_173 : decode cL_law 173 = .ok (.lor, 1) := by decide +kernel
theorem dL_law_174 : decode cL_law 174 = .ok (.invokevirtual 25, 3) := by decide +kernel
theorem dL_law_177 : decode cL_law 177 = .ok (.aload_n 2, 1) := by decide +kernel
theorem dL_law_178 : decode cL_law 178 = .ok (.aload_n 0, 1) := by decide +kernel
theorem dL_law_179 : decode cL_law 179 = .ok (.iload_n 3, 1) := by decide +kernel
theorem dL_law_180 : decode cL_law 180 = .ok (.iconst 1, 1) := by decide +kernel
theorem dL_law_181 : decode cL_law 181 = .ok (.iadd, 1) := by decide +kernel
theorem dL_law_182 : decode cL_law 182 = .ok (.iaload, 1) := by decide +kernel
theorem dL_law_183 : decode cL_law 183 = .ok (.aload_n 0, 1) := by decide +kernel
theorem dL_law_184 : decode cL_law 184 = .ok (.iload_n 3, 1) := by decide +kernel
theorem dL_law_185 : decode cL_law 185 = .ok (.iconst 2, 1) := by decide +kernel
theorem dL_law_186 : decode cL_law 186 = .ok (.iadd, 1) := by decide +kernel
theorem dL_law_187 : decode cL_law 187 = .ok (.iaload, 1) := by decide +kernel
theorem dL_law_188 : decode cL_law 188 = .ok (.i2l, 1) := by decide +kernel
theorem dL_law_189 : decode cL_law 189 = .ok (.bipush 32, 2) := by decide +kernel
theorem dL_law_191 : decode cL_law 191 = .ok (.lshl, 1) := by decide +kernel
theorem dL_law_192 : decode cL_law 192 = .ok (.aload_n 0, 1) := by decide +kernel
theorem dL_law_193 : decode cL_law 193 = .ok (.iload_n 3, 1) := by decide +kernel
theorem dL_law_194 : decode cL_law 194 = .ok (.iconst 3, 1) := by decide +kernel
theorem dL_law_195 : decode cL_law 195 = .ok (.iadd, 1) := by decide +kernel
theorem dL_law_196 : decode cL_law 196 = .ok (.iaload, 1) := by decide +kernel
theorem dL_law_197 : decode cL_law 197 = .ok (.i2l, 1) := by decide +kernel
theorem dL_law_198 : decode cL_law 198 = .ok (.ldc2_w 23, 3) := by decide +kernel
theorem dL_law_201 : decode cL_law 201 = .ok (.land, 1) := by decide +kernel
theorem dL_law_202 : decode cL_law 202 = .ok (.lor, 1) := by decide +kernel
theorem dL_law_203 : decode cL_law 203 = .ok (.invokevirtual 29, 3) := by decide +kernel
theorem dL_law_206 : decode cL_law 206 = .ok (.if_icmp .eq 416, 3) := by decide +kernel
theorem dL_law_209 : decode cL_law 209 = .ok (.iconst 0, 1) := by decide +kernel
theorem dL_law_210 : decode cL_law 210 = .ok (.ireturn, 1) := by decide +kernel
theorem dL_law_211 : decode cL_law 211 = .ok (.aload_n 1, 1) := by decide +kernel
theorem dL_law_212 : decode cL_law 212 = .ok (.aload_n 0, 1) := by decide +kernel
theorem dL_law_213 : decode cL_law 213 = .ok (.iload_n 3, 1) := by decide +kernel
theorem dL_law_214 : decode cL_law 214 = .ok (.iconst 1, 1) := by decide +kernel
theorem dL_law_215 : decode cL_law 215 = .ok (.iadd, 1) := by decide +kernel
theorem dL_law_216 : decode cL_law 216 = .ok (.iaload, 1) := by decide +kernel
theorem dL_law_217 : decode cL_law 217 = .ok (.aload_n 0, 1) := by decide +kernel
theorem dL_law_218 : decode cL_law 218 = .ok (.iload_n 3, 1) := by decide +kernel
theorem dL_law_219 : decode cL_law 219 = .ok (.iconst 2, 1) := by decide +kernel
theorem dL_law_220 : decode cL_law 220 = .ok (.iadd, 1) := by decide +kernel
theorem dL_law_221 : decode cL_law 221 = .ok (.iaload, 1) := by decide +kernel
theorem dL_law_222 : decode cL_law 222 = .ok (.ifCond .eq 7, 3) := by decide +kernel
theorem dL_law_225 : decode cL_law 225 = .ok (.iconst 1, 1) := by decide +kernel
theorem dL_law_226 : decode cL_law 226 = .ok (.goto 4, 3) := by decide +kernel
theorem dL_law_229 : decode cL_law 229 = .ok (.iconst 0, 1) := by decide +kernel
theorem dL_law_230 : decode cL_law 230 = .ok (.aload_n 0, 1) := by decide +kernel
theorem dL_law_231 : decode cL_law 231 = .ok (.iload_n 3, 1) := by decide +kernel
theorem dL_law_232 : decode cL_law 232 = .ok (.iconst 3, 1) := by decide +kernel
theorem dL_law_233 : decode cL_law 233 = .ok (.iadd, 1) := by decide +kernel
theorem dL_law_234 : decode cL_law 234 = .ok (.iaload, 1) := by decide +kernel
theorem dL_law_235 : decode cL_law 235 = .ok (.i2l, 1) := by decide +kernel
theorem dL_law_236 : decode cL_law 236 = .ok (.bipush 32, 2) := by decide +kernel
theorem dL_law_238 : decode cL_law 238 = .ok (.lshl, 1) := by decide +kernel
theorem dL_law_239 : decode cL_law 239 = .ok (.aload_n 0, 1) := by decide +kernel
theorem dL_law_240 : decode cL_law 240 = .ok (.iload_n 3, 1) := by decide +kernel
theorem dL_law_241 : decode cL_law 241 = .ok (.iconst 4, 1) := by decide +kernel
theorem dL_law_242 : decode cL_law 242 = .ok (.iadd, 1) := by decide +kernel
theorem dL_law_243 : decode cL_law 243 = .ok (.iaload, 1) := by decide +kernel
theorem dL_law_244 : decode cL_law 244 = .ok (.i2l, 1) := by decide +kernel
theorem dL_law_245 : decode cL_law 245 = .ok (.ldc2_w 23, 3) := by decide +kernel
theorem dL_law_248 : decode cL_law 248 = .ok (.land, 1) := by decide +kernel
theorem dL_law_249 : decode cL_law 249 = .ok (.lor, 1) := by decide +kernel
theorem dL_law_250 : decode cL_law 250 = .ok (.invokevirtual 30, 3) := by decide +kernel
theorem dL_law_253 : decode cL_law 253 = .ok (.aload_n 2, 1) := by decide +kernel
theorem dL_law_254 : decode cL_law 254 = .ok (.aload_n 0, 1) := by decide +kernel
theorem dL_law_255 : decode cL_law 255 = .ok (.iload_n 3, 1) := by decide +kernel
theorem dL_law_256 : decode cL_law 256 = .ok (.iconst 1, 1) := by decide +kernel
theorem dL_law_257 : decode cL_law 257 = .ok (.iadd, 1) := by decide +kernel
theorem dL_law_258 : decode cL_law 258 = .ok (.iaload, 1) := by decide +kernel
theorem dL_law_259 : decode cL_law 259 = .ok (.aload_n 0, 1) := by decide +kernel
theorem dL_law_260 : decode cL_law 260 = .ok (.iload_n 3, 1) := by decide +kernel
theorem dL_law_261 : decode cL_law 261 = .ok (.iconst 2, 1) := by decide +kernel
theorem dL_law_262 : decode cL_law 262 = .ok (.iadd, 1) := by decide +kernel
theorem dL_law_263 : decode cL_law 263 = .ok (.iaload, 1) := by decide +kernel
theorem dL_law_264 : decode cL_law 264 = .ok (.ifCond .eq 7, 3) := by decide +kernel
theorem dL_law_267 : decode cL_law 267 = .ok (.iconst 1, 1) := by decide +kernel
theorem dL_law_268 : decode cL_law 268 = .ok (.goto 4, 3) := by decide +kernel
theorem dL_law_271 : decode cL_law 271 = .ok (.iconst 0, 1) := by decide +kernel
theorem dL_law_272 : decode cL_law 272 = .ok (.aload_n 0, 1) := by decide +kernel
theorem dL_law_273 : decode cL_law 273 = .ok (.iload_n 3, 1) := by decide +kernel
theorem dL_law_274 : decode cL_law 274 = .ok (.iconst 3, 1) := by decide +kernel
theorem dL_law_275 : decode cL_law 275 = .ok (.iadd, 1) := by decide +kernel
theorem dL_law_276 : decode cL_law 276 = .ok (.iaload, 1) := by decide +kernel
theorem dL_law_277 : decode cL_law 277 = .ok (.i2l, 1) := by decide +kernel
theorem dL_law_278 : decode cL_law 278 = .ok (.bipush 32, 2) := by decide +kernel
theorem dL_law_280 : decode cL_law 280 = .ok (.lshl, 1) := by decide +kernel
theorem dL_law_281 : decode cL_law 281 = .ok (.aload_n 0, 1) := by decide +kernel
theorem dL_law_282 : decode cL_law 282 = .ok (.iload_n 3, 1) := by decide +kernel
theorem dL_law_283 : decode cL_law 283 = .ok (.iconst 4, 1) := by decide +kernel
theorem dL_law_284 : decode cL_law 284 = .ok (.iadd, 1) := by decide +kernel
theorem dL_law_285 : decode cL_law 285 = .ok (.iaload, 1) := by decide +kernel
theorem dL_law_286 : decode cL_law 286 = .ok (.i2l, 1) := by decide +kernel
theorem dL_law_287 : decode cL_law 287 = .ok (.ldc2_w 23, 3) := by decide +kernel
theorem dL_law_290 : decode cL_law 290 = .ok (.land, 1) := by decide +kernel
theorem dL_law_291 : decode cL_law 291 = .ok (.lor, 1) := by decide +kernel
theorem dL_law_292 : decode cL_law 292 = .ok (.invokevirtual 34, 3) := by decide +kernel
theorem dL_law_295 : decode cL_law 295 = .ok (.if_icmp .eq 327, 3) := by decide +kernel
theorem dL_law_298 : decode cL_law 298 = .ok (.iconst 0, 1) := by decide +kernel
theorem dL_law_299 : decode cL_law 299 = .ok (.ireturn, 1) := by decide +kernel
theorem dL_law_300 : decode cL_law 300 = .ok (.aload_n 1, 1) := by decide +kernel
theorem dL_law_301 : decode cL_law 301 = .ok (.aload_n 0, 1) := by decide +kernel
theorem dL_law_302 : decode cL_law 302 = .ok (.iload_n 3, 1) := by decide +kernel
theorem dL_law_303 : decode cL_law 303 = .ok (.iconst 1, 1) := by decide +kernel
theorem dL_law_304 : decode cL_law 304 = .ok (.iadd, 1) := by decide +kernel
theorem dL_law_305 : decode cL_law 305 = .ok (.iaload, 1) := by decide +kernel
theorem dL_law_306 : decode cL_law 306 = .ok (.aload_n 0, 1) := by decide +kernel
theorem dL_law_307 : decode cL_law 307 = .ok (.iload_n 3, 1) := by decide +kernel
theorem dL_law_308 : decode cL_law 308 = .ok (.iconst 2, 1) := by decide +kernel
theorem dL_law_309 : decode cL_law 309 = .ok (.iadd, 1) := by decide +kernel
theorem dL_law_310 : decode cL_law 310 = .ok (.iaload, 1) := by decide +kernel
theorem dL_law_311 : decode cL_law 311 = .ok (.invokevirtual 35, 3) := by decide +kernel
theorem dL_law_314 : decode cL_law 314 = .ok (.aload_n 2, 1) := by decide +kernel
theorem dL_law_315 : decode cL_law 315 = .ok (.aload_n 0, 1) := by decide +kernel
theorem dL_law_316 : decode cL_law 316 = .ok (.iload_n 3, 1) := by decide +kernel
theorem dL_law_317 : decode cL_law 317 = .ok (.iconst 1, 1) := by decide +kernel
theorem dL_law_318 : decode cL_law 318 = .ok (.iadd, 1) := by decide +kernel
theorem dL_law_319 : decode cL_law 319 = .ok (.iaload, 1) := by decide +kernel
theorem dL_law_320 : decode cL_law 320 = .ok (.aload_n 0, 1) := by decide +kernel
theorem dL_law_321 : decode cL_law 321 = .ok (.iload_n 3, 1) := by decide +kernel
theorem dL_law_322 : decode cL_law 322 = .ok (.iconst 2, 1) := by decide +kernel
theorem dL_law_323 : decode cL_law 323 = .ok (.iadd, 1) := by decide +kernel
theorem dL_law_324 : decode cL_law 324 = .ok (.iaload, 1) := by decide +kernel
theorem dL_law_325 : decode cL_law 325 = .ok (.invokevirtual 39, 3) := by decide +kernel
theorem dL_law_328 : decode cL_law 328 = .ok (.if_icmp .eq 294, 3) := by decide +kernel
theorem dL_law_331 : decode cL_law 331 = .ok (.iconst 0, 1) := by decide +kernel
theorem dL_law_332 : decode cL_law 332 = .ok (.ireturn, 1) := by decide +kernel
theorem dL_law_333 : decode cL_law 333 = .ok (.aload_n 1, 1) := by decide +kernel
theorem dL_law_334 : decode cL_law 334 = .ok (.aload_n 0, 1) := by decide +kernel
theorem dL_law_335 : decode cL_law 335 = .ok (.iload_n 3, 1) := by decide +kernel
theorem dL_law_336 : decode cL_law 336 = .ok (.iconst 1, 1) := by decide +kernel
theorem dL_law_337 : decode cL_law 337 = .ok (.iadd, 1) := by decide +kernel
theorem dL_law_338 : decode cL_law 338 = .ok (.iaload, 1) := by decide +kernel
theorem dL_law_339 : decode cL_law 339 = .ok (.aload_n 0, 1) := by decide +kernel
theorem dL_law_340 : decode cL_law 340 = .ok (.iload_n 3, 1) := by decide +kernel
theorem dL_law_341 : decode cL_law 341 = .ok (.iconst 2, 1) := by decide +kernel
theorem dL_law_342 : decode cL_law 342 = .ok (.iadd, 1) := by decide +kernel
theorem dL_law_343 : decode cL_law 343 = .ok (.iaload, 1) := by decide +kernel
theorem dL_law_344 : decode cL_law 344 = .ok (.invokevirtual 40, 3) := by decide +kernel
theorem dL_law_347 : decode cL_law 347 = .ok (.aload_n 2, 1) := by decide +kernel
theorem dL_law_348 : decode cL_law 348 = .ok (.aload_n 0, 1) := by decide +kernel
theorem dL_law_349 : decode cL_law 349 = .ok (.iload_n 3, 1) := by decide +kernel
theorem dL_law_350 : decode cL_law 350 = .ok (.iconst 1, 1) := by decide +kernel
theorem dL_law_351 : decode cL_law 351 = .ok (.iadd, 1) := by decide +kernel
theorem dL_law_352 : decode cL_law 352 = .ok (.iaload, 1) := by decide +kernel
theorem dL_law_353 : decode cL_law 353 = .ok (.aload_n 0, 1) := by decide +kernel
theorem dL_law_354 : decode cL_law 354 = .ok (.iload_n 3, 1) := by decide +kernel
theorem dL_law_355 : decode cL_law 355 = .ok (.iconst 2, 1) := by decide +kernel
theorem dL_law_356 : decode cL_law 356 = .ok (.iadd, 1) := by decide +kernel
theorem dL_law_357 : decode cL_law 357 = .ok (.iaload, 1) := by decide +kernel
theorem dL_law_358 : decode cL_law 358 = .ok (.invokevirtual 43, 3) := by decide +kernel
theorem dL_law_361 : decode cL_law 361 = .ok (.if_icmp .eq 261, 3) := by decide +kernel
theorem dL_law_364 : decode cL_law 364 = .ok (.iconst 0, 1) := by decide +kernel
theorem dL_law_365 : decode cL_law 365 = .ok (.ireturn, 1) := by decide +kernel
theorem dL_law_366 : decode cL_law 366 = .ok (.aload_n 1, 1) := by decide +kernel
theorem dL_law_367 : decode cL_law 367 = .ok (.aload_n 0, 1) := by decide +kernel
theorem dL_law_368 : decode cL_law 368 = .ok (.iload_n 3, 1) := by decide +kernel
theorem dL_law_369 : decode cL_law 369 = .ok (.iconst 1, 1) := by decide +kernel
theorem dL_law_370 : decode cL_law 370 = .ok (.iadd, 1) := by decide +kernel
theorem dL_law_371 : decode cL_law 371 = .ok (.iaload, 1) := by decide +kernel
theorem dL_law_372 : decode cL_law 372 = .ok (.invokevirtual 44, 3) := by decide +kernel
theorem dL_law_375 : decode cL_law 375 = .ok (.aload_n 2, 1) := by decide +kernel
theorem dL_law_376 : decode cL_law 376 = .ok (.aload_n 0, 1) := by decide +kernel
theorem dL_law_377 : decode cL_law 377 = .ok (.iload_n 3, 1) := by decide +kernel
theorem dL_law_378 : decode cL_law 378 = .ok (.iconst 1, 1) := by decide +kernel
theorem dL_law_379 : decode cL_law 379 = .ok (.iadd, 1) := by decide +kernel
theorem dL_law_380 : decode cL_law 380 = .ok (.iaload, 1) := by decide +kernel
theorem dL_law_381 : decode cL_law 381 = .ok (.invokevirtual 47, 3) := by decide +kernel
theorem dL_law_384 : decode cL_law 384 = .ok (.if_icmp .eq 238, 3) := by decide +kernel
theorem dL_law_387 : decode cL_law 387 = .ok (.iconst 0, 1) := by decide +kernel
theorem dL_law_388 : decode cL_law 388 = .ok (.ireturn, 1) := by decide +kernel
theorem dL_law_389 : decode cL_law 389 = .ok (.aload_n 1, 1) := by decide +kernel
theorem dL_law_390 : decode cL_law 390 = .ok (.aload_n 0, 1) := by decide +kernel
theorem dL_law_391 : decode cL_law 391 = .ok (.iload_n 3, 1) := by decide +kernel
theorem dL_law_392 : decode cL_law 392 = .ok (.iconst 1, 1) := by decide +kernel
theorem dL_law_393 : decode cL_law 393 = .ok (.iadd, 1) := by decide +kernel
theorem dL_law_394 : decode cL_law 394 = .ok (.iaload, 1) := by decide +kernel
theorem dL_law_395 : decode cL_law 395 = .ok (.aload_n 0, 1) := by decide +kernel
theorem dL_law_396 : decode cL_law 396 = .ok (.iload_n 3, 1) := by decide +kernel
theorem dL_law_397 : decode cL_law 397 = .ok (.iconst 2, 1) := by decide +kernel
theorem dL_law_398 : decode cL_law 398 = .ok (.iadd, 1) := by decide +kernel
theorem dL_law_399 : decode cL_law 399 = .ok (.iaload, 1) := by decide +kernel
theorem dL_law_400 : decode cL_law 400 = .ok (.invokevirtual 48, 3) := by decide +kernel
theorem dL_law_403 : decode cL_law 403 = .ok (.aload_n 2, 1) := by decide +kernel
theorem dL_law_404 : decode cL_law 404 = .ok (.aload_n 0, 1) := by decide +kernel
theorem dL_law_405 : decode cL_law 405 = .ok (.iload_n 3, 1) := by decide +kernel
theorem dL_law_406 : decode cL_law 406 = .ok (.iconst 1, 1) := by decide +kernel
theorem dL_law_407 : decode cL_law 407 = .ok (.iadd, 1) := by decide +kernel
theorem dL_law_408 : decode cL_law 408 = .ok (.iaload, 1) := by decide +kernel
theorem dL_law_409 : decode cL_law 409 = .ok (.aload_n 0, 1) := by decide +kernel
theorem dL_law_410 : decode cL_law 410 = .ok (.iload_n 3, 1) := by decide +kernel
theorem dL_law_411 : decode cL_law 411 = .ok (.iconst 2, 1) := by decide +kernel
theorem dL_law_412 : decode cL_law 412 = .ok (.iadd, 1) := by decide +kernel
theorem dL_law_413 : decode cL_law 413 = .ok (.iaload, 1) := by decide +kernel
theorem dL_law_414 : decode cL_law 414 = .ok (.invokevirtual 51, 3) := by decide +kernel
theorem dL_law_417 : decode cL_law 417 = .ok (.if_icmp .eq 205, 3) := by decide +kernel
theorem dL_law_420 : decode cL_law 420 = .ok (.iconst 0, 1) := by decide +kernel
theorem dL_law_421 : decode cL_law 421 = .ok (.ireturn, 1) := by decide +kernel
theorem dL_law_422 : decode cL_law 422 = .ok (.aload_n 1, 1) := by decide +kernel
theorem dL_law_423 : decode cL_law 423 = .ok (.aload_n 0, 1) := by decide +kernel
theorem dL_law_424 : decode cL_law 424 = .ok (.iload_n 3, 1) := by decide +kernel
theorem dL_law_425 : decode cL_law 425 = .ok (.iconst 1, 1) := by decide +kernel
theorem dL_law_426 : decode cL_law 426 = .ok (.iadd, 1) := by decide +kernel
theorem dL_law_427 : decode cL_law 427 = .ok (.iaload, 1) := by decide +kernel
theorem dL_law_428 : decode cL_law 428 = .ok (.invokevirtual 52, 3) := by decide +kernel
theorem dL_law_431 : decode cL_law 431 = .ok (.aload_n 2, 1) := by decide +kernel
theorem dL_law_432 : decode cL_law 432 = .ok (.aload_n 0, 1) := by decide +kernel
theorem dL_law_433 : decode cL_law 433 = .ok (.iload_n 3, 1) := by decide +kernel
theorem dL_law_434 : decode cL_law 434 = .ok (.iconst 1, 1) := by decide +kernel
theorem dL_law_435 : decode cL_law 435 = .ok (.iadd, 1) := by decide +kernel
theorem dL_law_436 : decode cL_law 436 = .ok (.iaload, 1) := by decide +kernel
theorem dL_law_437 : decode cL_law 437 = .ok (.invokevirtual 55, 3) := by decide +kernel
theorem dL_law_440 : decode cL_law 440 = .ok (.if_icmp .eq 182, 3) := by decide +kernel
theorem dL_law_443 : decode cL_law 443 = .ok (.iconst 0, 1) := by decide +kernel
theorem dL_law_444 : decode cL_law 444 = .ok (.ireturn, 1) := by decide +kernel
theorem dL_law_445 : decode cL_law 445 = .ok (.aload_n 1, 1) := by decide +kernel
theorem dL_law_446 : decode cL_law 446 = .ok (.invokevirtual 56, 3) := by decide +kernel
theorem dL_law_449 : decode cL_law 449 = .ok (.aload_n 2, 1) := by decide +kernel
theorem dL_law_450 : decode cL_law 450 = .ok (.invokevirtual 59, 3) := by decide +kernel
theorem dL_law_453 : decode cL_law 453 = .ok (.if_icmp .eq 169, 3) := by decide +kernel
theorem dL_law_456 : decode cL_law 456 = .ok (.iconst 0, 1) := by decide +kernel
theorem dL_law_457 : decode cL_law 457 = .ok (.ireturn, 1) := by decide +kernel
theorem dL_law_458 : decode cL_law 458 = .ok (.aload_n 1, 1) := by decide +kernel
theorem dL_law_459 : decode cL_law 459 = .ok (.aload_n 0, 1) := by decide +kernel
theorem dL_law_460 : decode cL_law 460 = .ok (.iload_n 3, 1) := by decide +kernel
theorem dL_law_461 : decode cL_law 461 = .ok (.iconst 1, 1) := by decide +kernel
theorem dL_law_462 : decode cL_law 462 = .ok (.iadd, 1) := by decide +kernel
theorem dL_law_463 : decode cL_law 463 = .ok (.iaload, 1) := by decide +kernel
theorem dL_law_464 : decode cL_law 464 = .ok (.aload_n 0, 1) := by decide +kernel
theorem dL_law_465 : decode cL_law 465 = .ok (.iload_n 3, 1) := by decide +kernel
theorem dL_law_466 : decode cL_law 466 = .ok (.iconst 2, 1) := by decide +kernel
theorem dL_law_467 : decode cL_law 467 = .ok (.iadd, 1) := by decide +kernel
theorem dL_law_468 : decode cL_law 468 = .ok (.iaload, 1) := by decide +kernel
theorem dL_law_469 : decode cL_law 469 = .ok (.ifCond .eq 7, 3) := by decide +kernel
theorem dL_law_472 : decode cL_law 472 = .ok (.iconst 1, 1) := by decide +kernel
theorem dL_law_473 : decode cL_law 473 = .ok (.goto 4, 3) := by decide +kernel
theorem dL_law_476 : decode cL_law 476 = .ok (.iconst 0, 1) := by decide +kernel
theorem dL_law_477 : decode cL_law 477 = .ok (.invokevirtual 60, 3) := by decide +kernel
theorem dL_law_480 : decode cL_law 480 = .ok (.aload_n 2, 1) := by decide +kernel
theorem dL_law_481 : decode cL_law 481 = .ok (.aload_n 0, 1) := by decide +kernel
theorem dL_law_482 : decode cL_law 482 = .ok (.iload_n 3, 1) := by decide +kernel
theorem dL_law_483 : decode cL_law 483 = .ok (.iconst 1, 1) := by decide +kernel
theorem dL_law_484 : decode cL_law 484 = .ok (.iadd, 1) := by decide +kernel
theorem dL_law_485 : decode cL_law 485 = .ok (.iaload, 1) := by decide +kernel
theorem dL_law_486 : decode cL_law 486 = .ok (.aload_n 0, 1) := by decide +kernel
theorem dL_law_487 : decode cL_law 487 = .ok (.iload_n 3, 1) := by decide +kernel
theorem dL_law_488 : decode cL_law 488 = .ok (.iconst 2, 1) := by decide +kernel
theorem dL_law_489 : decode cL_law 489 = .ok (.iadd, 1) := by decide +kernel
theorem dL_law_490 : decode cL_law 490 = .ok (.iaload, 1) := by decide +kernel
theorem dL_law_491 : decode cL_law 491 = .ok (.ifCond .eq 7, 3) := by decide +kernel
theorem dL_law_494 : decode cL_law 494 = .ok (.iconst 1, 1) := by decide +kernel
theorem dL_law_495 : decode cL_law 495 = .ok (.goto 4, 3) := by decide +kernel
theorem dL_law_498 : decode cL_law 498 = .ok (.iconst 0, 1) := by decide +kernel
theorem dL_law_499 : decode cL_law 499 = .ok (.invokevirtual 64, 3) := by decide +kernel
theorem dL_law_502 : decode cL_law 502 = .ok (.if_icmp .eq 120, 3) := by decide +kernel
theorem dL_law_505 : decode cL_law 505 = .ok (.iconst 0, 1) := by decide +kernel
theorem dL_law_506 : decode cL_law 506 = .ok (.ireturn, 1) := by decide +kernel
theorem dL_law_507 : decode cL_law 507 = .ok (.aload_n 1, 1) := by decide +kernel
theorem dL_law_508 : decode cL_law 508 = .ok (.aload_n 0, 1) := by decide +kernel
theorem dL_law_509 : decode cL_law 509 = .ok (.iload_n 3, 1) := by decide +kernel
theorem dL_law_510 : decode cL_law 510 = .ok (.iconst 1, 1) := by decide +kernel
theorem dL_law_511 : decode cL_law 511 = .ok (.iadd, 1) := by decide +kernel
theorem dL_law_512 : decode cL_law 512 = .ok (.iaload, 1) := by decide +kernel
theorem dL_law_513 : decode cL_law 513 = .ok (.invokevirtual 65, 3) := by decide +kernel
theorem dL_law_516 : decode cL_law 516 = .ok (.aload_n 2, 1) := by decide +kernel
theorem dL_law_517 : decode cL_law 517 = .ok (.aload_n 0, 1) := by decide +kernel
theorem dL_law_518 : decode cL_law 518 = .ok (.iload_n 3, 1) := by decide +kernel
theorem dL_law_519 : decode cL_law 519 = .ok (.iconst 1, 1) := by decide +kernel
theorem dL_law_520 : decode cL_law 520 = .ok (.iadd, 1) := by decide +kernel
theorem dL_law_521 : decode cL_law 521 = .ok (.iaload, 1) := by decide +kernel
theorem dL_law_522 : decode cL_law 522 = .ok (.invokevirtual 68, 3) := by decide +kernel
theorem dL_law_525 : decode cL_law 525 = .ok (.if_icmp .eq 97, 3) := by decide +kernel
theorem dL_law_528 : decode cL_law 528 = .ok (.iconst 0, 1) := by decide +kernel
theorem dL_law_529 : decode cL_law 529 = .ok (.ireturn, 1) := by decide +kernel
theorem dL_law_530 : decode cL_law 530 = .ok (.aload_n 1, 1) := by decide +kernel
theorem dL_law_531 : decode cL_law 531 = .ok (.aload_n 0, 1) := by decide +kernel
theorem dL_law_532 : decode cL_law 532 = .ok (.iload_n 3, 1) := by decide +kernel
theorem dL_law_533 : decode cL_law 533 = .ok (.iconst 1, 1) := by decide +kernel
theorem dL_law_534 : decode cL_law 534 = .ok (.iadd, 1) := by decide +kernel
theorem dL_law_535 : decode cL_law 535 = .ok (.iaload, 1) := by decide +kernel
theorem dL_law_536 : decode cL_law 536 = .ok (.aload_n 0, 1) := by decide +kernel
theorem dL_law_537 : decode cL_law 537 = .ok (.iload_n 3, 1) := by decide +kernel
theorem dL_law_538 : decode cL_law 538 = .ok (.iconst 2, 1) := by decide +kernel
theorem dL_law_539 : decode cL_law 539 = .ok (.iadd, 1) := by decide +kernel
theorem dL_law_540 : decode cL_law 540 = .ok (.iaload, 1) := by decide +kernel
theorem dL_law_541 : decode cL_law 541 = .ok (.invokevirtual 69, 3) := by decide +kernel
theorem dL_law_544 : decode cL_law 544 = .ok (.aload_n 2, 1) := by decide +kernel
theorem dL_law_545 : decode cL_law 545 = .ok (.aload_n 0, 1) := by decide +kernel
theorem dL_law_546 : decode cL_law 546 = .ok (.iload_n 3, 1) := by decide +kernel
theorem dL_law_547 : decode cL_law 547 = .ok (.iconst 1, 1) := by decide +kernel
theorem dL_law_548 : decode cL_law 548 = .ok (.iadd, 1) := by decide +kernel
theorem dL_law_549 : decode cL_law 549 = .ok (.iaload, 1) := by decide +kernel
theorem dL_law_550 : decode cL_law 550 = .ok (.aload_n 0, 1) := by decide +kernel
theorem dL_law_551 : decode cL_law 551 = .ok (.iload_n 3, 1) := by decide +kernel
theorem dL_law_552 : decode cL_law 552 = .ok (.iconst 2, 1) := by decide +kernel
theorem dL_law_553 : decode cL_law 553 = .ok (.iadd, 1) := by decide +kernel
theorem dL_law_554 : decode cL_law 554 = .ok (.iaload, 1) := by decide +kernel
theorem dL_law_555 : decode cL_law 555 = .ok (.invokevirtual 72, 3) := by decide +kernel
theorem dL_law_558 : decode cL_law 558 = .ok (.if_icmp .eq 64, 3) := by decide +kernel
theorem dL_law_561 : decode cL_law 561 = .ok (.iconst 0, 1) := by decide +kernel
theorem dL_law_562 : decode cL_law 562 = .ok (.ireturn, 1) := by decide +kernel
theorem dL_law_563 : decode cL_law 563 = .ok (.aload_n 1, 1) := by decide +kernel
theorem dL_law_564 : decode cL_law 564 = .ok (.aload_n 0, 1) := by decide +kernel
theorem dL_law_565 : decode cL_law 565 = .ok (.iload_n 3, 1) := by decide +kernel
theorem dL_law_566 : decode cL_law 566 = .ok (.iconst 1, 1) := by decide +kernel
theorem dL_law_567 : decode cL_law 567 = .ok (.iadd, 1) := by decide +kernel
theorem dL_law_568 : decode cL_law 568 = .ok (.iaload, 1) := by decide +kernel
theorem dL_law_569 : decode cL_law 569 = .ok (.invokevirtual 73, 3) := by decide +kernel
theorem dL_law_572 : decode cL_law 572 = .ok (.aload_n 2, 1) := by decide +kernel
theorem dL_law_573 : decode cL_law 573 = .ok (.aload_n 0, 1) := by decide +kernel
theorem dL_law_574 : decode cL_law 574 = .ok (.iload_n 3, 1) := by decide +kernel
theorem dL_law_575 : decode cL_law 575 = .ok (.iconst 1, 1) := by decide +kernel
theorem dL_law_576 : decode cL_law 576 = .ok (.iadd, 1) := by decide +kernel
theorem dL_law_577 : decode cL_law 577 = .ok (.iaload, 1) := by decide +kernel
theorem dL_law_578 : decode cL_law 578 = .ok (.invokevirtual 76, 3) := by decide +kernel
theorem dL_law_581 : decode cL_law 581 = .ok (.if_icmp .eq 41, 3) := by decide +kernel
theorem dL_law_584 : decode cL_law 584 = .ok (.iconst 0, 1) := by decide +kernel
theorem dL_law_585 : decode cL_law 585 = .ok (.ireturn, 1) := by decide +kernel
theorem dL_law_586 : decode cL_law 586 = .ok (.aload_n 1, 1) := by decide +kernel
theorem dL_law_587 : decode cL_law 587 = .ok (.aload_n 0, 1) := by decide +kernel
theorem dL_law_588 : decode cL_law 588 = .ok (.iload_n 3, 1) := by decide +kernel
theorem dL_law_589 : decode cL_law 589 = .ok (.iconst 1, 1) := by decide +kernel
theorem dL_law_590 : decode cL_law 590 = .ok (.iadd, 1) := by decide +kernel
theorem dL_law_591 : decode cL_law 591 = .ok (.iaload, 1) := by decide +kernel
theorem dL_law_592 : decode cL_law 592 = .ok (.invokevirtual 77, 3) := by decide +kernel
theorem dL_law_595 : decode cL_law 595 = .ok (.aload_n 2, 1) := by decide +kernel
theorem dL_law_596 : decode cL_law 596 = .ok (.aload_n 0, 1) := by decide +kernel
theorem dL_law_597 : decode cL_law 597 = .ok (.iload_n 3, 1) := by decide +kernel
theorem dL_law_598 : decode cL_law 598 = .ok (.iconst 1, 1) := by decide +kernel
theorem dL_law_599 : decode cL_law 599 = .ok (.iadd, 1) := by decide +kernel
theorem dL_law_600 : decode cL_law 600 = .ok (.iaload, 1) := by decide +kernel
theorem dL_law_601 : decode cL_law 601 = .ok (.invokevirtual 80, 3) := by decide +kernel
theorem dL_law_604 : decode cL_law 604 = .ok (.if_icmp .eq 18, 3) := by decide +kernel
theorem dL_law_607 : decode cL_law 607 = .ok (.iconst 0, 1) := by decide +kernel
theorem dL_law_608 : decode cL_law 608 = .ok (.ireturn, 1) := by decide +kernel
theorem dL_law_609 : decode cL_law 609 = .ok (.aload_n 1, 1) := by decide +kernel
theorem dL_law_610 : decode cL_law 610 = .ok (.invokevirtual 81, 3) := by decide +kernel
theorem dL_law_613 : decode cL_law 613 = .ok (.aload_n 2, 1) := by decide +kernel
theorem dL_law_614 : decode cL_law 614 = .ok (.invokevirtual 84, 3) := by decide +kernel
theorem dL_law_617 : decode cL_law 617 = .ok (.if_icmp .eq 5, 3) := by decide +kernel
theorem dL_law_620 : decode cL_law 620 = .ok (.iconst 0, 1) := by decide +kernel
theorem dL_law_621 : decode cL_law 621 = .ok (.ireturn, 1) := by decide +kernel
theorem dL_law_622 : decode cL_law 622 = .ok (.iinc 3 5, 3) := by decide +kernel
theorem dL_law_625 : decode cL_law 625 = .ok (.goto (-607), 3) := by decide +kernel
theorem dL_law_628 : decode cL_law 628 = .ok (.iconst 1, 1) := by decide +kernel
theorem dL_law_629 : decode cL_law 629 = .ok (.ireturn, 1) := by decide +kernel
end
section
theorem dX1_init_0 : decode cX1_init 0 = .ok (.aload_n 0, 1) := by decide +kernel
theorem dX1_init_1 : decode cX1_init 1 = .ok (.invokespecial 1, 3) := by decide +kernel
theorem dX1_init_4 : decode cX1_init 4 = .ok (.aload_n 0, 1) := by decide +kernel
theorem dX1_init_5 : decode cX1_init 5 = .ok (.sipush 3000, 3) := by decide +kernel
theorem dX1_init_8 : decode cX1_init 8 = .ok (.newarray .int, 2) := by decide +kernel
theorem dX1_init_10 : decode cX1_init 10 = .ok (.putfield 9, 3) := by decide +kernel
theorem dX1_init_13 : decode cX1_init 13 = .ok (.aload_n 0, 1) := by decide +kernel
theorem dX1_init_14 : decode cX1_init 14 = .ok (.bipush 40, 2) := by decide +kernel
theorem dX1_init_16 : decode cX1_init 16 = .ok (.newarray .int, 2) := by decide +kernel
theorem dX1_init_18 : decode cX1_init 18 = .ok (.putfield 13, 3) := by decide +kernel
theorem dX1_init_21 : decode cX1_init 21 = .ok (.aload_n 0, 1) := by decide +kernel
theorem dX1_init_22 : decode cX1_init 22 = .ok (.bipush 20, 2) := by decide +kernel
theorem dX1_init_24 : decode cX1_init 24 = .ok (.newarray .int, 2) := by decide +kernel
theorem dX1_init_26 : decode cX1_init 26 = .ok (.putfield 16, 3) := by decide +kernel
theorem dX1_init_29 : decode cX1_init 29 = .ok (.return_, 1) := by decide +kernel
theorem dX1_note_0 : decode cX1_note 0 = .ok (.iload_n 1, 1) := by decide +kernel
theorem dX1_note_1 : decode cX1_note 1 = .ok (.i2l, 1) := by decide +kernel
theorem dX1_note_2 : decode cX1_note 2 = .ok (.invokestatic 34, 3) := by decide +kernel
theorem dX1_note_5 : decode cX1_note 5 = .ok (.ifCond .ne 5, 3) := by decide +kernel
theorem dX1_note_8 : decode cX1_note 8 = .ok (.iconst (-1), 1) := by decide +kernel
theorem dX1_note_9 : decode cX1_note 9 = .ok (.ireturn, 1) := by decide +kernel
theorem dX1_note_10 : decode cX1_note 10 = .ok (.aload_n 0, 1) := by decide +kernel
theorem dX1_note_11 : decode cX1_note 11 = .ok (.getfield 38, 3) := by decide +kernel
theorem dX1_note_14 : decode cX1_note 14 = .ok (.bipush 40, 2) := by decide +kernel
theorem dX1_note_16 : decode cX1_note 16 = .ok (.if_icmp .ne 6, 3) := by decide +kernel
theorem dX1_note_19 : decode cX1_note 19 = .ok (.bipush (-3), 2) := by decide +kernel
theorem dX1_note_21 : decode cX1_note 21 = .ok (.ireturn, 1) := by decide +kernel
theorem dX1_note_22 : decode cX1_note 22 = .ok (.aload_n 0, 1) := by decide +kernel
theorem dX1_note_23 : decode cX1_note 23 = .ok (.getfield 13, 3) := by decide +kernel
theorem dX1_note_26 : decode cX1_note 26 = .ok (.aload_n 0, 1) := by decide +kernel
theorem dX1_note_27 : decode cX1_note 27 = .ok (.getfield 38, 3) := by decide +kernel
theorem dX1_note_30 : decode cX1_note 30 = .ok (.iload_n 1, 1) := by decide +kernel
theorem dX1_note_31 : decode cX1_note 31 = .ok (.iastore, 1) := by decide +kernel
theorem dX1_note_32 : decode cX1_note 32 = .ok (.aload_n 0, 1) := by decide +kernel
theorem dX1_note_33 : decode cX1_note 33 = .ok (.dup, 1) := by decide +kernel
theorem dX1_note_34 : decode cX1_note 34 = .ok (.getfield 38, 3) := by decide +kernel
theorem dX1_note_37 : decode cX1_note 37 = .ok (.iconst 1, 1) := by decide +kernel
theorem dX1_note_38 : decode cX1_note 38 = .ok (.iadd, 1) := by decide +kernel
theorem dX1_note_39 : decode cX1_note 39 = .ok (.dup_x1, 1) := by decide +kernel
theorem dX1_note_40 : decode cX1_note 40 = .ok (.putfield 38, 3) := by decide +kernel
theorem dX1_note_43 : decode cX1_note 43 = .ok (.ireturn, 1) := by decide +kernel
theorem dX1_isSign_0 : decode cX1_isSign 0 = .ok (.lload_n 0, 1) := by decide +kernel
theorem dX1_isSign_1 : decode cX1_isSign 1 = .ok (.lconst 0, 1) := by decide +kernel
theorem dX1_isSign_2 : decode cX1_isSign 2 = .ok (.lcmp, 1) := by decide +kernel
theorem dX1_isSign_3 : decode cX1_isSign 3 = .ok (.ifCond .lt 31, 3) := by decide +kernel
theorem dX1_isSign_6 : decode cX1_isSign 6 = .ok (.lload_n 0, 1) := by decide +kernel
theorem dX1_isSign_7 : decode cX1_isSign 7 = .ok (.ldc2_w 19, 3) := by decide +kernel
theorem dX1_isSign_10 : decode cX1_isSign 10 = .ok (.lcmp, 1) := by decide +kernel
theorem dX1_isSign_11 : decode cX1_isSign 11 = .ok (.ifCond .gt 23, 3) := by decide +kernel
theorem dX1_isSign_14 : decode cX1_isSign 14 = .ok (.lload_n 0, 1) := by decide +kernel
theorem dX1_isSign_15 : decode cX1_isSign 15 = .ok (.ldc2_w 21, 3) := by decide +kernel
theorem dX1_isSign_18 : decode cX1_isSign 18 = .ok (.lcmp, 1) := by decide +kernel
theorem dX1_isSign_19 : decode cX1_isSign 19 = .ok (.ifCond .lt 11, 3) := by decide +kernel
theorem dX1_isSign_22 : decode cX1_isSign 22 = .ok (.lload_n 0, 1) := by decide +kernel
theorem dX1_isSign_23 : decode cX1_isSign 23 = .ok (.ldc2_w 23, 3) := by decide +kernel
theorem dX1_isSign_26 : decode cX1_isSign 26 = .ok (.lcmp, 1) := by decide +kernel
theorem dX1_isSign_27 : decode cX1_isSign 27 = .ok (.ifCond .le 7, 3) := by decide +kernel
theorem dX1_isSign_30 : decode cX1_isSign 30 = .ok (.iconst 1, 1) := by decide +kernel
theorem dX1_isSign_31 : decode cX1_isSign 31 = .ok (.goto 4, 3) := by decide +kernel
theorem dX1_isSign_34 : decode cX1_isSign 34 = .ok (.iconst 0, 1) := by decide +kernel
theorem dX1_isSign_35 : decode cX1_isSign 35 = .ok (.ireturn, 1) := by decide +kernel
theorem dX1_drop_0 : decode cX1_drop 0 = .ok (.aload_n 0, 1) := by decide +kernel
theorem dX1_drop_1 : decode cX1_drop 1 = .ok (.getfield 38, 3) := by decide +kernel
theorem dX1_drop_4 : decode cX1_drop 4 = .ok (.istore_n 1, 1) := by decide +kernel
theorem dX1_drop_5 : decode cX1_drop 5 = .ok (.aload_n 0, 1) := by decide +kernel
theorem dX1_drop_6 : decode cX1_drop 6 = .ok (.iconst 0, 1) := by decide +kernel
theorem dX1_drop_7 : decode cX1_drop 7 = .ok (.putfield 38, 3) := by decide +kernel
theorem dX1_drop_10 : decode cX1_drop 10 = .ok (.iload_n 1, 1) := by decide +kernel
theorem dX1_drop_11 : decode cX1_drop 11 = .ok (.ireturn, 1) := by decide +kernel
theorem dX1_scrap_0 : decode cX1_scrap 0 = .ok (.iload_n 1, 1) := by decide +kernel
theorem dX1_scrap_1 : decode cX1_scrap 1 = .ok (.ifCond .lt 11, 3) := by decide +kernel
theorem dX1_scrap_4 : decode cX1_scrap 4 = .ok (.iload_n 1, 1) := by decide +kernel
theorem dX1_scrap_5 : decode cX1_scrap 5 = .ok (.aload_n 0, 1) := by decide +kernel
theorem dX1_scrap_6 : decode cX1_scrap 6 = .ok (.getfield 38, 3) := by decide +kernel
theorem dX1_scrap_9 : decode cX1_scrap 9 = .ok (.if_icmp .lt 7, 3) := by decide +kernel
theorem dX1_scrap_12 : decode cX1_scrap 12 = .ok (.iconst (-1), 1) := by decide +kernel
theorem dX1_scrap_13 : decode cX1_scrap 13 = .ok (.goto 9, 3) := by decide +kernel
theorem dX1_scrap_16 : decode cX1_scrap 16 = .ok (.aload_n 0, 1) := by decide +kernel
theorem dX1_scrap_17 : decode cX1_scrap 17 = .ok (.getfield 13, 3) := by decide +kernel
theorem dX1_scrap_20 : decode cX1_scrap 20 = .ok (.iload_n 1, 1) := by decide +kernel
theorem dX1_scrap_21 : decode cX1_scrap 21 = .ok (.iaload, 1) := by decide +kernel
theorem dX1_scrap_22 : decode cX1_scrap 22 = .ok (.ireturn, 1) := by decide +kernel
theorem dX1_lift_0 : decode cX1_lift 0 = .ok (.iload_n 1, 1) := by decide +kernel
theorem dX1_lift_1 : decode cX1_lift 1 = .ok (.ifCond .lt 16, 3) := by decide +kernel
theorem dX1_lift_4 : decode cX1_lift 4 = .ok (.iload_n 2, 1) := by decide +kernel
theorem dX1_lift_5 : decode cX1_lift 5 = .ok (.iload_n 1, 1) := by decide +kernel
theorem dX1_lift_6 : decode cX1_lift 6 = .ok (.if_icmp .lt 11, 3) := by decide +kernel
theorem dX1_lift_9 : decode cX1_lift 9 = .ok (.iload_n 2, 1) := by decide +kernel
theorem dX1_lift_10 : decode cX1_lift 10 = .ok (.aload_n 0, 1) := by decide +kernel
theorem dX1_lift_11 : decode cX1_lift 11 = .ok (.getfield 31, 3) := by decide +kernel
theorem dX1_lift_14 : decode cX1_lift 14 = .ok (.if_icmp .le 5, 3) := by decide +kernel
theorem dX1_lift_17 : decode cX1_lift 17 = .ok (.iconst (-1), 1) := by decide +kernel
theorem dX1_lift_18 : decode cX1_lift 18 = .ok (.ireturn, 1) := by decide +kernel
theorem dX1_lift_19 : decode cX1_lift 19 = .ok (.iload_n 2, 1) := by decide +kernel
theorem dX1_lift_20 : decode cX1_lift 20 = .ok (.iload_n 1, 1) := by decide +kernel
theorem dX1_lift_21 : decode cX1_lift 21 = .ok (.isub, 1) := by decide +kernel
theorem dX1_lift_22 : decode cX1_lift 22 = .ok (.bipush 40, 2) := by decide +kernel
theorem dX1_lift_24 : decode cX1_lift 24 = .ok (.if_icmp .le 6, 3) := by decide +kernel
theorem dX1_lift_27 : decode cX1_lift 27 = .ok (.bipush (-3), 2) := by decide +kernel
theorem dX1_lift_29 : decode cX1_lift 29 = .ok (.ireturn, 1) := by decide +kernel
theorem dX1_lift_30 : decode cX1_lift 30 = .ok (.aload_n 0, 1) := by decide +kernel
theorem dX1_lift_31 : decode cX1_lift 31 = .ok (.iload_n 2, 1) := by decide +kernel
theorem dX1_lift_32 : decode cX1_lift 32 = .ok (.iload_n 1, 1) := by decide +kernel
theorem dX1_lift_33 : decode cX1_lift 33 = .ok (.isub, 1) := by decide +kernel
theorem dX1_lift_34 : decode cX1_lift 34 = .ok (.putfield 38, 3) := by decide +kernel
theorem dX1_lift_37 : decode cX1_lift 37 = .ok (.iconst 0, 1) := by decide +kernel
theorem dX1_lift_38 : decode cX1_lift 38 = .ok (.istore_n 3, 1) := by decide +kernel
theorem dX1_lift_39 : decode cX1_lift 39 = .ok (.iload_n 3, 1) := by decide +kernel
theorem dX1_lift_40 : decode cX1_lift 40 = .ok (.aload_n 0, 1) := by decide +kernel
theorem dX1_lift_41 : decode cX1_lift 41 = .ok (.getfield 38, 3) := by decide +kernel
theorem dX1_lift_44 : decode cX1_lift 44 = .ok (.if_icmp .ge 23, 3) := by decide +kernel
theorem dX1_lift_47 : decode cX1_lift 47 = .ok (.aload_n 0, 1) := by decide +kernel
theorem dX1_lift_48 : decode cX1_lift 48 = .ok (.getfield 13, 3) := by decide +kernel
theorem dX1_lift_51 : decode cX1_lift 51 = .ok (.iload_n 3, 1) := by decide +kernel
theorem dX1_lift_52 : decode cX1_lift 52 = .ok (.aload_n 0, 1) := by decide +kernel
theorem dX1_lift_53 : decode cX1_lift 53 = .ok (.getfield 9, 3) := by decide +kernel
theorem dX1_lift_56 : decode cX1_lift 56 = .ok (.iload_n 1, 1) := by decide +kernel
theorem dX1_lift_57 : decode cX1_lift 57 = .ok (.iload_n 3, 1) := by decide +kernel
theorem dX1_lift_58 : decode cX1_lift 58 = .ok (.iadd, 1) := by decide +kernel
theorem dX1_lift_59 : decode cX1_lift 59 = .ok (.iaload, 1) := by decide +kernel
theorem dX1_lift_60 : decode cX1_lift 60 = .ok (.iastore, 1) := by decide +kernel
theorem dX1_lift_61 : decode cX1_lift 61 = .ok (.iinc 3 1, 3) := by decide +kernel
theorem dX1_lift_64 : decode cX1_lift 64 = .ok (.goto (-25), 3) := by decide +kernel
theorem dX1_lift_67 : decode cX1_lift 67 = .ok (.aload_n 0, 1) := by decide +kernel
theorem dX1_lift_68 : decode cX1_lift 68 = .ok (.getfield 38, 3) := by decide +kernel
theorem dX1_lift_71 : decode cX1_lift 71 = .ok (.ireturn, 1) := by decide +kernel
theorem dX1_add_0 : decode cX1_add 0 = .ok (.iload_n 1, 1) := by decide +kernel
theorem dX1_add_1 : decode cX1_add 1 = .ok (.tableswitch 113 0 3 #[31, 45, 61, 70], 31) := by decide +kernel
theorem dX1_add_32 : decode cX1_add 32 = .ok (.aload_n 0, 1) := by decide +kernel
theorem dX1_add_33 : decode cX1_add 33 = .ok (.lload_n 2, 1) := by decide +kernel
theorem dX1_add_34 : decode cX1_add 34 = .ok (.invokevirtual 55, 3) := by decide +kernel
theorem dX1_add_37 : decode cX1_add 37 = .ok (.aload_n 0, 1) := by decide +kernel
theorem dX1_add_38 : decode cX1_add 38 = .ok (.aload_n 0, 1) := by decide +kernel
theorem dX1_add_39 : decode cX1_add 39 = .ok (.getfield 31, 3) := by decide +kernel
theorem dX1_add_42 : decode cX1_add 42 = .ok (.invokevirtual 58, 3) := by decide +kernel
theorem dX1_add_45 : decode cX1_add 45 = .ok (.ireturn, 1) := by decide +kernel
theorem dX1_add_46 : decode cX1_add 46 = .ok (.aload_n 0, 1) := by decide +kernel
theorem dX1_add_47 : decode cX1_add 47 = .ok (.lload_n 2, 1) := by decide +kernel
theorem dX1_add_48 : decode cX1_add 48 = .ok (.lconst 0, 1) := by decide +kernel
theorem dX1_add_49 : decode cX1_add 49 = .ok (.lcmp, 1) := by decide +kernel
theorem dX1_add_50 : decode cX1_add 50 = .ok (.ifCond .eq 7, 3) := by decide +kernel
theorem dX1_add_53 : decode cX1_add 53 = .ok (.iconst 1, 1) := by decide +kernel
theorem dX1_add_54 : decode cX1_add 54 = .ok (.goto 4, 3) := by decide +kernel
theorem dX1_add_57 : decode cX1_add 57 = .ok (.iconst 0, 1) := by decide +kernel
theorem dX1_add_58 : decode cX1_add 58 = .ok (.invokevirtual 62, 3) := by decide +kernel
theorem dX1_add_61 : decode cX1_add 61 = .ok (.ireturn, 1) := by decide +kernel
theorem dX1_add_62 : decode cX1_add 62 = .ok (.aload_n 0, 1) := by decide +kernel
theorem dX1_add_63 : decode cX1_add 63 = .ok (.aload_n 0, 1) := by decide +kernel
theorem dX1_add_64 : decode cX1_add 64 = .ok (.getfield 31, 3) := by decide +kernel
theorem dX1_add_67 : decode cX1_add 67 = .ok (.invokevirtual 66, 3) := by decide +kernel
theorem dX1_add_70 : decode cX1_add 70 = .ok (.ireturn, 1) := by decide +kernel
theorem dX1_add_71 : decode cX1_add 71 = .ok (.lload_n 2, 1) := by decide +kernel
theorem dX1_add_72 : decode cX1_add 72 = .ok (.invokestatic 34, 3) := by decide +kernel
theorem dX1_add_75 : decode cX1_add 75 = .ok (.ifCond .ne 5, 3) := by decide +kernel
theorem dX1_add_78 : decode cX1_add 78 = .ok (.iconst (-1), 1) := by decide +kernel
theorem dX1_add_79 : decode cX1_add 79 = .ok (.ireturn, 1) := by decide +kernel
theorem dX1_add_80 : decode cX1_add 80 = .ok (.aload_n 0, 1) := by decide +kernel
theorem dX1_add_81 : decode cX1_add 81 = .ok (.iconst 1, 1) := by decide +kernel
theorem dX1_add_82 : decode cX1_add 82 = .ok (.invokevirtual 41, 3) := by decide +kernel
theorem dX1_add_85 : decode cX1_add 85 = .ok (.ifCond .eq 6, 3) := by decide +kernel
theorem dX1_add_88 : decode cX1_add 88 = .ok (.bipush (-3), 2) := by decide +kernel
theorem dX1_add_90 : decode cX1_add 90 = .ok (.ireturn, 1) := by decide +kernel
theorem dX1_add_91 : decode cX1_add 91 = .ok (.aload_n 0, 1) := by decide +kernel
theorem dX1_add_92 : decode cX1_add 92 = .ok (.getfield 9, 3) := by decide +kernel
theorem dX1_add_95 : decode cX1_add 95 = .ok (.aload_n 0, 1) := by decide +kernel
theorem dX1_add_96 : decode cX1_add 96 = .ok (.getfield 31, 3) := by decide +kernel
theorem dX1_add_99 : decode cX1_add 99 = .ok (.lload_n 2, 1) := by decide +kernel
theorem dX1_add_100 : decode cX1_add 100 = .ok (.l2i, 1) := by decide +kernel
theorem dX1_add_101 : decode cX1_add 101 = .ok (.iastore, 1) := by decide +kernel
theorem dX1_add_102 : decode cX1_add 102 = .ok (.aload_n 0, 1) := by decide +kernel
theorem dX1_add_103 : decode cX1_add 103 = .ok (.dup, 1) := by decide +kernel
theorem dX1_add_104 : decode cX1_add 104 = .ok (.getfield 31, 3) := by decide +kernel
theorem dX1_add_107 : decode cX1_add 107 = .ok (.iconst 1, 1) := by decide +kernel
theorem dX1_add_108 : decode cX1_add 108 = .ok (.iadd, 1) := by decide +kernel
theorem dX1_add_109 : decode cX1_add 109 = .ok (.dup_x1, 1) := by decide +kernel
theorem dX1_add_110 : decode cX1_add 110 = .ok (.putfield 31, 3) := by decide +kernel
theorem dX1_add_113 : decode cX1_add 113 = .ok (.ireturn, 1) := by decide +kernel
theorem dX1_add_114 : decode cX1_add 114 = .ok (.iconst (-1), 1) := by decide +kernel
theorem dX1_add_115 : decode cX1_add 115 = .ok (.ireturn, 1) := by decide +kernel
theorem dX1_digits_0 : decode cX1_digits 0 = .ok (.aload_n 0, 1) := by decide +kernel
theorem dX1_digits_1 : decode cX1_digits 1 = .ok (.iconst 0, 1) := by decide +kernel
theorem dX1_digits_2 : decode cX1_digits 2 = .ok (.putfield 25, 3) := by decide +kernel
theorem dX1_digits_5 : decode cX1_digits 5 = .ok (.lload_n 1, 1) := by decide +kernel
theorem dX1_digits_6 : decode cX1_digits 6 = .ok (.lstore_n 3, 1) := by decide +kernel
theorem dX1_digits_7 : decode cX1_digits 7 = .ok (.lload_n 3, 1) := by decide +kernel
theorem dX1_digits_8 : decode cX1_digits 8 = .ok (.ldc2_w 29, 3) := by decide +kernel
theorem dX1_digits_11 : decode cX1_digits 11 = .ok (.lrem, 1) := by decide +kernel
theorem dX1_digits_12 : decode cX1_digits 12 = .ok (.l2i, 1) := by decide +kernel
theorem dX1_digits_13 : decode cX1_digits 13 = .ok (.istore 5, 2) := by decide +kernel
theorem dX1_digits_15 : decode cX1_digits 15 = .ok (.aload_n 0, 1) := by decide +kernel
theorem dX1_digits_16 : decode cX1_digits 16 = .ok (.getfield 16, 3) := by decide +kernel
theorem dX1_digits_19 : decode cX1_digits 19 = .ok (.aload_n 0, 1) := by decide +kernel
theorem dX1_digits_20 : decode cX1_digits 20 = .ok (.dup, 1) := by decide +kernel
theorem dX1_digits_21 : decode cX1_digits 21 = .ok (.getfield 25, 3) := by decide +kernel
theorem dX1_digits_24 : decode cX1_digits 24 = .ok (.dup_x1, 1) := by decide +kernel
theorem dX1_digits_25 : decode cX1_digits 25 = .ok (.iconst 1, 1) := by decide +kernel
theorem dX1_digits_26 : decode cX1_digits 26 = .ok (.iadd, 1) := by decide +kernel
theorem dX1_digits_27 : decode cX1_digits 27 = .ok (.putfield 25, 3) := by decide +kernel
theorem dX1_digits_30 : decode cX1_digits 30 = .ok (.bipush 48, 2) := by decide +kernel
theorem dX1_digits_32 : decode cX1_digits 32 = .ok (.iload 5, 2) := by decide +kernel
theorem dX1_digits_34 : decode cX1_digits 34 = .ok (.ifCond .ge 9, 3) := by decide +kernel
theorem dX1_digits_37 : decode cX1_digits 37 = .ok (.iload 5, 2) := by decide +kernel
theorem dX1_digits_39 : decode cX1_digits 39 = .ok (.ineg, 1) := by decide +kernel
theorem dX1_digits_40 : decode cX1_digits 40 = .ok (.goto 5, 3) := by decide +kernel
theorem dX1_digits_43 : decode cX1_digits 43 = .ok (.iload 5, 2) := by decide +kernel
theorem dX1_digits_45 : decode cX1_digits 45 = .ok (.iadd, 1) := by decide +kernel
theorem dX1_digits_46 : decode cX1_digits 46 = .ok (.iastore, 1) := by decide +kernel
theorem dX1_digits_47 : decode cX1_digits 47 = .ok (.lload_n 3, 1) := by decide +kernel
theorem dX1_digits_48 : decode cX1_digits 48 = .ok (.ldc2_w 29, 3) := by decide +kernel
theorem dX1_digits_51 : decode cX1_digits 51 = .ok (.ldiv, 1) := by decide +kernel
theorem dX1_digits_52 : decode cX1_digits 52 = .ok (.lstore_n 3, 1) := by decide +kernel
theorem dX1_digits_53 : decode cX1_digits 53 = .ok (.lload_n 3, 1) := by decide +kernel
theorem dX1_digits_54 : decode cX1_digits 54 = .ok (.lconst 0, 1) := by decide +kernel
theorem dX1_digits_55 : decode cX1_digits 55 = .ok (.lcmp, 1) := by decide +kernel
theorem dX1_digits_56 : decode cX1_digits 56 = .ok (.ifCond .ne (-49), 3) := by decide +kernel
theorem dX1_digits_59 : decode cX1_digits 59 = .ok (.lload_n 1, 1) := by decide +kernel
theorem dX1_digits_60 : decode cX1_digits 60 = .ok (.lconst 0, 1) := by decide +kernel
theorem dX1_digits_61 : decode cX1_digits 61 = .ok (.lcmp, 1) := by decide +kernel
theorem dX1_digits_62 : decode cX1_digits 62 = .ok (.ifCond .ge 21, 3) := by decide +kernel
theorem dX1_digits_65 : decode cX1_digits 65 = .ok (.aload_n 0, 1) := by decide +kernel
theorem dX1_digits_66 : decode cX1_digits 66 = .ok (.getfield 16, 3) := by decide +kernel
theorem dX1_digits_69 : decode cX1_digits 69 = .ok (.aload_n 0, 1) := by decide +kernel
theorem dX1_digits_70 : decode cX1_digits 70 = .ok (.dup, 1) := by decide +kernel
theorem dX1_digits_71 : decode cX1_digits 71 = .ok (.getfield 25, 3) := by decide +kernel
theorem dX1_digits_74 : decode cX1_digits 74 = .ok (.dup_x1, 1) := by decide +kernel
theorem dX1_digits_75 : decode cX1_digits 75 = .ok (.iconst 1, 1) := by decide +kernel
theorem dX1_digits_76 : decode cX1_digits 76 = .ok (.iadd, 1) := by decide +kernel
theorem dX1_digits_77 : decode cX1_digits 77 = .ok (.putfield 25, 3) := by decide +kernel
theorem dX1_digits_80 : decode cX1_digits 80 = .ok (.bipush 45, 2) := by decide +kernel
theorem dX1_digits_82 : decode cX1_digits 82 = .ok (.iastore, 1) := by decide +kernel
theorem dX1_digits_83 : decode cX1_digits 83 = .ok (.return_, 1) := by decide +kernel
theorem dX1_putDigits_0 : decode cX1_putDigits 0 = .ok (.aload_n 0, 1) := by decide +kernel
theorem dX1_putDigits_1 : decode cX1_putDigits 1 = .ok (.aload_n 0, 1) := by decide +kernel
theorem dX1_putDigits_2 : decode cX1_putDigits 2 = .ok (.getfield 25, 3) := by decide +kernel
theorem dX1_putDigits_5 : decode cX1_putDigits 5 = .ok (.invokevirtual 41, 3) := by decide +kernel
theorem dX1_putDigits_8 : decode cX1_putDigits 8 = .ok (.ifCond .eq 6, 3) := by decide +kernel
theorem dX1_putDigits_11 : decode cX1_putDigits 11 = .ok (.bipush (-3), 2) := by decide +kernel
theorem dX1_putDigits_13 : decode cX1_putDigits 13 = .ok (.ireturn, 1) := by decide +kernel
theorem dX1_putDigits_14 : decode cX1_putDigits 14 = .ok (.aload_n 0, 1) := by decide +kernel
theorem dX1_putDigits_15 : decode cX1_putDigits 15 = .ok (.iload_n 1, 1) := by decide +kernel
theorem dX1_putDigits_16 : decode cX1_putDigits 16 = .ok (.aload_n 0, 1) := by decide +kernel
theorem dX1_putDigits_17 : decode cX1_putDigits 17 = .ok (.getfield 25, 3) := by decide +kernel
theorem dX1_putDigits_20 : decode cX1_putDigits 20 = .ok (.invokevirtual 45, 3) := by decide +kernel
theorem dX1_putDigits_23 : decode cX1_putDigits 23 = .ok (.iconst 0, 1) := by decide +kernel
theorem dX1_putDigits_24 : decode cX1_putDigits 24 = .ok (.istore_n 2, 1) := by decide +kernel
theorem dX1_putDigits_25 : decode cX1_putDigits 25 = .ok (.iload_n 2, 1) := by decide +kernel
theorem dX1_putDigits_26 : decode cX1_putDigits 26 = .ok (.aload_n 0, 1) := by decide +kernel
theorem dX1_putDigits_27 : decode cX1_putDigits 27 = .ok (.getfield 25, 3) := by decide +kernel
theorem dX1_putDigits_30 : decode cX1_putDigits 30 = .ok (.if_icmp .ge 30, 3) := by decide +kernel
theorem dX1_putDigits_33 : decode cX1_putDigits 33 = .ok (.aload_n 0, 1) := by decide +kernel
theorem dX1_putDigits_34 : decode cX1_putDigits 34 = .ok (.getfield 9, 3) := by decide +kernel
theorem dX1_putDigits_37 : decode cX1_putDigits 37 = .ok (.iload_n 1, 1) := by decide +kernel
theorem dX1_putDigits_38 : decode cX1_putDigits 38 = .ok (.iload_n 2, 1) := by decide +kernel
theorem dX1_putDigits_39 : decode cX1_putDigits 39 = .ok (.iadd, 1) := by decide +kernel
theorem dX1_putDigits_40 : decode cX1_putDigits 40 = .ok (.aload_n 0, 1) := by decide +kernel
theorem dX1_putDigits_41 : decode cX1_putDigits 41 = .ok (.getfield 16, 3) := by decide +kernel
theorem dX1_putDigits_44 : decode cX1_putDigits 44 = .ok (.aload_n 0, 1) := by decide +kernel
theorem dX1_putDigits_45 : decode cX1_putDigits 45 = .ok (.getfield 25, 3) := by decide +kernel
theorem dX1_putDigits_48 : decode cX1_putDigits 48 = .ok (.iconst 1, 1) := by decide +kernel
theorem dX1_putDigits_49 : decode cX1_putDigits 49 = .ok (.isub, 1) := by decide +kernel
theorem dX1_putDigits_50 : decode cX1_putDigits 50 = .ok (.iload_n 2, 1) := by decide +kernel
theorem dX1_putDigits_51 : decode cX1_putDigits 51 = .ok (.isub, 1) := by decide +kernel
theorem dX1_putDigits_52 : decode cX1_putDigits 52 = .ok (.iaload, 1) := by decide +kernel
theorem dX1_putDigits_53 : decode cX1_putDigits 53 = .ok (.iastore, 1) := by decide +kernel
theorem dX1_putDigits_54 : decode cX1_putDigits 54 = .ok (.iinc 2 1, 3) := by decide +kernel
theorem dX1_putDigits_57 : decode cX1_putDigits 57 = .ok (.goto (-32), 3) := by decide +kernel
theorem dX1_putDigits_60 : decode cX1_putDigits 60 = .ok (.aload_n 0, 1) := by decide +kernel
theorem dX1_putDigits_61 : decode cX1_putDigits 61 = .ok (.getfield 31, 3) := by decide +kernel
theorem dX1_putDigits_64 : decode cX1_putDigits 64 = .ok (.ireturn, 1) := by decide +kernel
theorem dX1_full_0 : decode cX1_full 0 = .ok (.aload_n 0, 1) := by decide +kernel
theorem dX1_full_1 : decode cX1_full 1 = .ok (.getfield 31, 3) := by decide +kernel
theorem dX1_full_4 : decode cX1_full 4 = .ok (.iload_n 1, 1) := by decide +kernel
theorem dX1_full_5 : decode cX1_full 5 = .ok (.iadd, 1) := by decide +kernel
theorem dX1_full_6 : decode cX1_full 6 = .ok (.sipush 3000, 3) := by decide +kernel
theorem dX1_full_9 : decode cX1_full 9 = .ok (.if_icmp .le 7, 3) := by decide +kernel
theorem dX1_full_12 : decode cX1_full 12 = .ok (.iconst 1, 1) := by decide +kernel
theorem dX1_full_13 : decode cX1_full 13 = .ok (.goto 4, 3) := by decide +kernel
theorem dX1_full_16 : decode cX1_full 16 = .ok (.iconst 0, 1) := by decide +kernel
theorem dX1_full_17 : decode cX1_full 17 = .ok (.ireturn, 1) := by decide +kernel
theorem dX1_open_0 : decode cX1_open 0 = .ok (.aload_n 0, 1) := by decide +kernel
theorem dX1_open_1 : decode cX1_open 1 = .ok (.getfield 31, 3) := by decide +kernel
theorem dX1_open_4 : decode cX1_open 4 = .ok (.iconst 1, 1) := by decide +kernel
theorem dX1_open_5 : decode cX1_open 5 = .ok (.isub, 1) := by decide +kernel
theorem dX1_open_6 : decode cX1_open 6 = .ok (.istore_n 3, 1) := by decide +kernel
theorem dX1_open_7 : decode cX1_open 7 = .ok (.iload_n 3, 1) := by decide +kernel
theorem dX1_open_8 : decode cX1_open 8 = .ok (.iload_n 1, 1) := by decide +kernel
theorem dX1_open_9 : decode cX1_open 9 = .ok (.if_icmp .lt 23, 3) := by decide +kernel
theorem dX1_open_12 : decode cX1_open 12 = .ok (.aload_n 0, 1) := by decide +kernel
theorem dX1_open_13 : decode cX1_open 13 = .ok (.getfield 9, 3) := by decide +kernel
theorem dX1_open_16 : decode cX1_open 16 = .ok (.iload_n 3, 1) := by decide +kernel
theorem dX1_open_17 : decode cX1_open 17 = .ok (.iload_n 2, 1) := by decide +kernel
theorem dX1_open_18 : decode cX1_open 18 = .ok (.iadd, 1) := by decide +kernel
theorem dX1_open_19 : decode cX1_open 19 = .ok (.aload_n 0, 1) := by decide +kernel
theorem dX1_open_20 : decode cX1_open 20 = .ok (.getfield 9, 3) := by decide +kernel
theorem dX1_open_23 : decode cX1_open 23 = .ok (.iload_n 3, 1) := by decide +kernel
theorem dX1_open_24 : decode cX1_open 24 = .ok (.iaload, 1) := by decide +kernel
theorem dX1_open_25 : decode cX1_open 25 = .ok (.iastore, 1) := by decide +kernel
theorem dX1_open_26 : decode cX1_open 26 = .ok (.iinc 3 (-1), 3) := by decide +kernel
theorem dX1_open_29 : decode cX1_open 29 = .ok (.goto (-22), 3) := by decide +kernel
theorem dX1_open_32 : decode cX1_open 32 = .ok (.aload_n 0, 1) := by decide +kernel
theorem dX1_open_33 : decode cX1_open 33 = .ok (.dup, 1) := by decide +kernel
theorem dX1_open_34 : decode cX1_open 34 = .ok (.getfield 31, 3) := by decide +kernel
theorem dX1_open_37 : decode cX1_open 37 = .ok (.iload_n 2, 1) := by decide +kernel
theorem dX1_open_38 : decode cX1_open 38 = .ok (.iadd, 1) := by decide +kernel
theorem dX1_open_39 : decode cX1_open 39 = .ok (.putfield 31, 3) := by decide +kernel
theorem dX1_open_42 : decode cX1_open 42 = .ok (.return_, 1) := by decide +kernel
theorem dX1_letters_0 : decode cX1_letters 0 = .ok (.iload_n 1, 1) := by decide +kernel
theorem dX1_letters_1 : decode cX1_letters 1 = .ok (.ifCond .eq 7, 3) := by decide +kernel
theorem dX1_letters_4 : decode cX1_letters 4 = .ok (.iconst 4, 1) := by decide +kernel
theorem dX1_letters_5 : decode cX1_letters 5 = .ok (.goto 4, 3) := by decide +kernel
theorem dX1_letters_8 : decode cX1_letters 8 = .ok (.iconst 5, 1) := by decide +kernel
theorem dX1_letters_9 : decode cX1_letters 9 = .ok (.istore_n 2, 1) := by decide +kernel
theorem dX1_letters_10 : decode cX1_letters 10 = .ok (.aload_n 0, 1) := by decide +kernel
theorem dX1_letters_11 : decode cX1_letters 11 = .ok (.getfield 31, 3) := by decide +kernel
theorem dX1_letters_14 : decode cX1_letters 14 = .ok (.istore_n 3, 1) := by decide +kernel
theorem dX1_letters_15 : decode cX1_letters 15 = .ok (.aload_n 0, 1) := by decide +kernel
theorem dX1_letters_16 : decode cX1_letters 16 = .ok (.iload_n 2, 1) := by decide +kernel
theorem dX1_letters_17 : decode cX1_letters 17 = .ok (.invokevirtual 41, 3) := by decide +kernel
theorem dX1_letters_20 : decode cX1_letters 20 = .ok (.ifCond .eq 6, 3) := by decide +kernel
theorem dX1_letters_23 : decode cX1_letters 23 = .ok (.bipush (-3), 2) := by decide +kernel
theorem dX1_letters_25 : decode cX1_letters 25 = .ok (.ireturn, 1) := by decide +kernel
theorem dX1_letters_26 : decode cX1_letters 26 = .ok (.aload_n 0, 1) := by decide +kernel
theorem dX1_letters_27 : decode cX1_letters 27 = .ok (.dup, 1) := by decide +kernel
theorem dX1_letters_28 : decode cX1_letters 28 = .ok (.getfield 31, 3) := by decide +kernel
theorem dX1_letters_31 : decode cX1_letters 31 = .ok (.iload_n 2, 1) := by decide +kernel
theorem dX1_letters_32 : decode cX1_letters 32 = .ok (.iadd, 1) := by decide +kernel
theorem dX1_letters_33 : decode cX1_letters 33 = .ok (.putfield 31, 3) := by decide +kernel
theorem dX1_letters_36 : decode cX1_letters 36 = .ok (.iload_n 1, 1) := by decide +kernel
theorem dX1_letters_37 : decode cX1_letters 37 = .ok (.ifCond .eq 9, 3) := by decide +kernel
theorem dX1_letters_40 : decode cX1_letters 40 = .ok (.getstatic 49, 3) := by decide +kernel
theorem dX1_letters_43 : decode cX1_letters 43 = .ok (.goto 6, 3) := by decide +kernel
theorem dX1_letters_46 : decode cX1_letters 46 = .ok (.getstatic 52, 3) := by decide +kernel
theorem dX1_letters_49 : decode cX1_letters 49 = .ok (.astore 4, 2) := by decide +kernel
theorem dX1_letters_51 : decode cX1_letters 51 = .ok (.iconst 0, 1) := by decide +kernel
theorem dX1_letters_52 : decode cX1_letters 52 = .ok (.istore 5, 2) := by decide +kernel
theorem dX1_letters_54 : decode cX1_letters 54 = .ok (.iload 5, 2) := by decide +kernel
theorem dX1_letters_56 : decode cX1_letters 56 = .ok (.iload_n 2, 1) := by decide +kernel
theorem dX1_letters_57 : decode cX1_letters 57 = .ok (.if_icmp .ge 23, 3) := by decide +kernel
theorem dX1_letters_60 : decode cX1_letters 60 = .ok (.aload_n 0, 1) := by decide +kernel
theorem dX1_letters_61 : decode cX1_letters 61 = .ok (.getfield 9, 3) := by decide +kernel
theorem dX1_letters_64 : decode cX1_letters 64 = .ok (.iload_n 3, 1) := by decide +kernel
theorem dX1_letters_65 : decode cX1_letters 65 = .ok (.iload 5, 2) := by decide +kernel
theorem dX1_letters_67 : decode cX1_letters 67 = .ok (.iadd, 1) := by decide +kernel
theorem dX1_letters_68 : decode cX1_letters 68 = .ok (.aload 4, 2) := by decide +kernel
theorem dX1_letters_70 : decode cX1_letters 70 = .ok (.iload 5, 2) := by decide +kernel
theorem dX1_letters_72 : decode cX1_letters 72 = .ok (.iaload, 1) := by decide +kernel
theorem dX1_letters_73 : decode cX1_letters 73 = .ok (.iastore, 1) := by decide +kernel
theorem dX1_letters_74 : decode cX1_letters 74 = .ok (.iinc 5 1, 3) := by decide +kernel
theorem dX1_letters_77 : decode cX1_letters 77 = .ok (.goto (-23), 3) := by decide +kernel
theorem dX1_letters_80 : decode cX1_letters 80 = .ok (.aload_n 0, 1) := by decide +kernel
theorem dX1_letters_81 : decode cX1_letters 81 = .ok (.getfield 31, 3) := by decide +kernel
theorem dX1_letters_84 : decode cX1_letters 84 = .ok (.ireturn, 1) := by decide +kernel
theorem dX1_putScrap_0 : decode cX1_putScrap 0 = .ok (.aload_n 0, 1) := by decide +kernel
theorem dX1_putScrap_1 : decode cX1_putScrap 1 = .ok (.aload_n 0, 1) := by decide +kernel
theorem dX1_putScrap_2 : decode cX1_putScrap 2 = .ok (.getfield 38, 3) := by decide +kernel
theorem dX1_putScrap_5 : decode cX1_putScrap 5 = .ok (.invokevirtual 41, 3) := by decide +kernel
theorem dX1_putScrap_8 : decode cX1_putScrap 8 = .ok (.ifCond .eq 6, 3) := by decide +kernel
theorem dX1_putScrap_11 : decode cX1_putScrap 11 = .ok (.bipush (-3), 2) := by decide +kernel
theorem dX1_putScrap_13 : decode cX1_putScrap 13 = .ok (.ireturn, 1) := by decide +kernel
theorem dX1_putScrap_14 : decode cX1_putScrap 14 = .ok (.aload_n 0, 1) := by decide +kernel
theorem dX1_putScrap_15 : decode cX1_putScrap 15 = .ok (.iload_n 1, 1) := by decide +kernel
theorem dX1_putScrap_16 : decode cX1_putScrap 16 = .ok (.aload_n 0, 1) := by decide +kernel
theorem dX1_putScrap_17 : decode cX1_putScrap 17 = .ok (.getfield 38, 3) := by decide +kernel
theorem dX1_putScrap_20 : decode cX1_putScrap 20 = .ok (.invokevirtual 45, 3) := by decide +kernel
theorem dX1_putScrap_23 : decode cX1_putScrap 23 = .ok (.iconst 0, 1) := by decide +kernel
theorem dX1_putScrap_24 : decode cX1_putScrap 24 = .ok (.istore_n 2, 1) := by decide +kernel
theorem dX1_putScrap_25 : decode cX1_putScrap 25 = .ok (.iload_n 2, 1) := by decide +kernel
theorem dX1_putScrap_26 : decode cX1_putScrap 26 = .ok (.aload_n 0, 1) := by decide +kernel
theorem dX1_putScrap_27 : decode cX1_putScrap 27 = .ok (.getfield 38, 3) := by decide +kernel
theorem dX1_putScrap_30 : decode cX1_putScrap 30 = .ok (.if_icmp .ge 23, 3) := by decide +kernel
theorem dX1_putScrap_33 : decode cX1_putScrap 33 = .ok (.aload_n 0, 1) := by decide +kernel
theorem dX1_putScrap_34 : decode cX1_putScrap 34 = .ok (.getfield 9, 3) := by decide +kernel
theorem dX1_putScrap_37 : decode cX1_putScrap 37 = .ok (.iload_n 1, 1) := by decide +kernel
theorem dX1_putScrap_38 : decode cX1_putScrap 38 = .ok (.iload_n 2, 1) := by decide +kernel
theorem dX1_putScrap_39 : decode cX1_putScrap 39 = .ok (.iadd, 1) := by decide +kernel
theorem dX1_putScrap_40 : decode cX1_putScrap 40 = .ok (.aload_n 0, 1) := by decide +kernel
theorem dX1_putScrap_41 : decode cX1_putScrap 41 = .ok (.getfield 13, 3) := by decide +kernel
theorem dX1_putScrap_44 : decode cX1_putScrap 44 = .ok (.iload_n 2, 1) := by decide +kernel
theorem dX1_putScrap_45 : decode cX1_putScrap 45 = .ok (.iaload, 1) := by decide +kernel
theorem dX1_putScrap_46 : decode cX1_putScrap 46 = .ok (.iastore, 1) := by decide +kernel
theorem dX1_putScrap_47 : decode cX1_putScrap 47 = .ok (.iinc 2 1, 3) := by decide +kernel
theorem dX1_putScrap_50 : decode cX1_putScrap 50 = .ok (.goto (-25), 3) := by decide +kernel
theorem dX1_putScrap_53 : decode cX1_putScrap 53 = .ok (.aload_n 0, 1) := by decide +kernel
theorem dX1_putScrap_54 : decode cX1_putScrap 54 = .ok (.getfield 31, 3) := by decide +kernel
theorem dX1_putScrap_57 : decode cX1_putScrap 57 = .ok (.ireturn, 1) := by decide +kernel
theorem dX1_insert_0 : decode cX1_insert 0 = .ok (.iload_n 1, 1) := by decide +kernel
theorem dX1_insert_1 : decode cX1_insert 1 = .ok (.ifCond .lt 11, 3) := by decide +kernel
theorem dX1_insert_4 : decode cX1_insert 4 = .ok (.iload_n 1, 1) := by decide +kernel
theorem dX1_insert_5 : decode cX1_insert 5 = .ok (.aload_n 0, 1) := by decide +kernel
theorem dX1_insert_6 : decode cX1_insert 6 = .ok (.getfield 31, 3) := by decide +kernel
theorem dX1_insert_9 : decode cX1_insert 9 = .ok (.if_icmp .le 5, 3) := by decide +kernel
theorem dX1_insert_12 : decode cX1_insert 12 = .ok (.iconst (-1), 1) := by decide +kernel
theorem dX1_insert_13 : decode cX1_insert 13 = .ok (.ireturn, 1) := by decide +kernel
theorem dX1_insert_14 : decode cX1_insert 14 = .ok (.iload_n 2, 1) := by decide +kernel
theorem dX1_insert_15 : decode cX1_insert 15 = .ok (.ifCond .ne 9, 3) := by decide +kernel
theorem dX1_insert_18 : decode cX1_insert 18 = .ok (.aload_n 0, 1) := by decide +kernel
theorem dX1_insert_19 : decode cX1_insert 19 = .ok (.iload_n 1, 1) := by decide +kernel
theorem dX1_insert_20 : decode cX1_insert 20 = .ok (.invokevirtual 66, 3) := by decide +kernel
theorem dX1_insert_23 : decode cX1_insert 23 = .ok (.ireturn, 1) := by decide +kernel
theorem dX1_insert_24 : decode cX1_insert 24 = .ok (.aload_n 0, 1) := by decide +kernel
theorem dX1_insert_25 : decode cX1_insert 25 = .ok (.lload_n 3, 1) := by decide +kernel
theorem dX1_insert_26 : decode cX1_insert 26 = .ok (.invokevirtual 55, 3) := by decide +kernel
theorem dX1_insert_29 : decode cX1_insert 29 = .ok (.aload_n 0, 1) := by decide +kernel
theorem dX1_insert_30 : decode cX1_insert 30 = .ok (.iload_n 1, 1) := by decide +kernel
theorem dX1_insert_31 : decode cX1_insert 31 = .ok (.invokevirtual 58, 3) := by decide +kernel
theorem dX1_insert_34 : decode cX1_insert 34 = .ok (.ireturn, 1) := by decide +kernel
theorem dX1_cut_0 : decode cX1_cut 0 = .ok (.iload_n 1, 1) := by decide +kernel
theorem dX1_cut_1 : decode cX1_cut 1 = .ok (.ifCond .lt 16, 3) := by decide +kernel
theorem dX1_cut_4 : decode cX1_cut 4 = .ok (.iload_n 1, 1) := by decide +kernel
theorem dX1_cut_5 : decode cX1_cut 5 = .ok (.aload_n 0, 1) := by decide +kernel
theorem dX1_cut_6 : decode cX1_cut 6 = .ok (.getfield 31, 3) := by decide +kernel
theorem dX1_cut_9 : decode cX1_cut 9 = .ok (.if_icmp .gt 8, 3) := by decide +kernel
theorem dX1_cut_12 : decode cX1_cut 12 = .ok (.iload_n 2, 1) := by decide +kernel
theorem dX1_cut_13 : decode cX1_cut 13 = .ok (.iload_n 1, 1) := by decide +kernel
theorem dX1_cut_14 : decode cX1_cut 14 = .ok (.if_icmp .ge 5, 3) := by decide +kernel
theorem dX1_cut_17 : decode cX1_cut 17 = .ok (.iconst (-1), 1) := by decide +kernel
theorem dX1_cut_18 : decode cX1_cut 18 = .ok (.ireturn, 1) := by decide +kernel
theorem dX1_cut_19 : decode cX1_cut 19 = .ok (.aload_n 0, 1) := by decide +kernel
theorem dX1_cut_20 : decode cX1_cut 20 = .ok (.iload_n 1, 1) := by decide +kernel
theorem dX1_cut_21 : decode cX1_cut 21 = .ok (.iload_n 2, 1) := by decide +kernel
theorem dX1_cut_22 : decode cX1_cut 22 = .ok (.aload_n 0, 1) := by decide +kernel
theorem dX1_cut_23 : decode cX1_cut 23 = .ok (.getfield 31, 3) := by decide +kernel
theorem dX1_cut_26 : decode cX1_cut 26 = .ok (.if_icmp .le 10, 3) := by decide +kernel
theorem dX1_cut_29 : decode cX1_cut 29 = .ok (.aload_n 0, 1) := by decide +kernel
theorem dX1_cut_30 : decode cX1_cut 30 = .ok (.getfield 31, 3) := by decide +kernel
theorem dX1_cut_33 : decode cX1_cut 33 = .ok (.goto 4, 3) := by decide +kernel
theorem dX1_cut_36 : decode cX1_cut 36 = .ok (.iload_n 2, 1) := by decide +kernel
theorem dX1_cut_37 : decode cX1_cut 37 = .ok (.invokevirtual 69, 3) := by decide +kernel
theorem dX1_cut_40 : decode cX1_cut 40 = .ok (.aload_n 0, 1) := by decide +kernel
theorem dX1_cut_41 : decode cX1_cut 41 = .ok (.getfield 31, 3) := by decide +kernel
theorem dX1_cut_44 : decode cX1_cut 44 = .ok (.ireturn, 1) := by decide +kernel
theorem dX1_close_0 : decode cX1_close 0 = .ok (.iload_n 2, 1) := by decide +kernel
theorem dX1_close_1 : decode cX1_close 1 = .ok (.iload_n 1, 1) := by decide +kernel
theorem dX1_close_2 : decode cX1_close 2 = .ok (.isub, 1) := by decide +kernel
theorem dX1_close_3 : decode cX1_close 3 = .ok (.istore_n 3, 1) := by decide +kernel
theorem dX1_close_4 : decode cX1_close 4 = .ok (.iload_n 2, 1) := by decide +kernel
theorem dX1_close_5 : decode cX1_close 5 = .ok (.istore 4, 2) := by decide +kernel
theorem dX1_close_7 : decode cX1_close 7 = .ok (.iload 4, 2) := by decide +kernel
theorem dX1_close_9 : decode cX1_close 9 = .ok (.aload_n 0, 1) := by decide +kernel
theorem dX1_close_10 : decode cX1_close 10 = .ok (.getfield 31, 3) := by decide +kernel
theorem dX1_close_13 : decode cX1_close 13 = .ok (.if_icmp .ge 25, 3) := by decide +kernel
theorem dX1_close_16 : decode cX1_close 16 = .ok (.aload_n 0, 1) := by decide +kernel
theorem dX1_close_17 : decode cX1_close 17 = .ok (.getfield 9, 3) := by decide +kernel
theorem dX1_close_20 : decode cX1_close 20 = .ok (.iload 4, 2) := by decide +kernel
theorem dX1_close_22 : decode cX1_close 22 = .ok (.iload_n 3, 1) := by decide +kernel
theorem dX1_close_23 : decode cX1_close 23 = .ok (.isub, 1) := by decide +kernel
theorem dX1_close_24 : decode cX1_close 24 = .ok (.aload_n 0, 1) := by decide +kernel
theorem dX1_close_25 : decode cX1_close 25 = .ok (.getfield 9, 3) := by decide +kernel
theorem dX1_close_28 : decode cX1_close 28 = .ok (.iload 4, 2) := by decide +kernel
theorem dX1_close_30 : decode cX1_close 30 = .ok (.iaload, 1) := by decide +kernel
theorem dX1_close_31 : decode cX1_close 31 = .ok (.iastore, 1) := by decide +kernel
theorem dX1_close_32 : decode cX1_close 32 = .ok (.iinc 4 1, 3) := by decide +kernel
theorem dX1_close_35 : decode cX1_close 35 = .ok (.goto (-28), 3) := by decide +kernel
theorem dX1_close_38 : decode cX1_close 38 = .ok (.aload_n 0, 1) := by decide +kernel
theorem dX1_close_39 : decode cX1_close 39 = .ok (.dup, 1) := by decide +kernel
theorem dX1_close_40 : decode cX1_close 40 = .ok (.getfield 31, 3) := by decide +kernel
theorem dX1_close_43 : decode cX1_close 43 = .ok (.iload_n 3, 1) := by decide +kernel
theorem dX1_close_44 : decode cX1_close 44 = .ok (.isub, 1) := by decide +kernel
theorem dX1_close_45 : decode cX1_close 45 = .ok (.putfield 31, 3) := by decide +kernel
theorem dX1_close_48 : decode cX1_close 48 = .ok (.return_, 1) := by decide +kernel
theorem dX1_swap_0 : decode cX1_swap 0 = .ok (.iload_n 1, 1) := by decide +kernel
theorem dX1_swap_1 : decode cX1_swap 1 = .ok (.ifCond .lt 16, 3) := by decide +kernel
theorem dX1_swap_4 : decode cX1_swap 4 = .ok (.iload_n 1, 1) := by decide +kernel
theorem dX1_swap_5 : decode cX1_swap 5 = .ok (.aload_n 0, 1) := by decide +kernel
theorem dX1_swap_6 : decode cX1_swap 6 = .ok (.getfield 31, 3) := by decide +kernel
theorem dX1_swap_9 : decode cX1_swap 9 = .ok (.if_icmp .gt 8, 3) := by decide +kernel
theorem dX1_swap_12 : decode cX1_swap 12 = .ok (.iload_n 2, 1) := by decide +kernel
theorem dX1_swap_13 : decode cX1_swap 13 = .ok (.iload_n 1, 1) := by decide +kernel
theorem dX1_swap_14 : decode cX1_swap 14 = .ok (.if_icmp .ge 5, 3) := by decide +kernel
theorem dX1_swap_17 : decode cX1_swap 17 = .ok (.iconst (-1), 1) := by decide +kernel
theorem dX1_swap_18 : decode cX1_swap 18 = .ok (.ireturn, 1) := by decide +kernel
theorem dX1_swap_19 : decode cX1_swap 19 = .ok (.iload_n 2, 1) := by decide +kernel
theorem dX1_swap_20 : decode cX1_swap 20 = .ok (.aload_n 0, 1) := by decide +kernel
theorem dX1_swap_21 : decode cX1_swap 21 = .ok (.getfield 31, 3) := by decide +kernel
theorem dX1_swap_24 : decode cX1_swap 24 = .ok (.if_icmp .le 10, 3) := by decide +kernel
theorem dX1_swap_27 : decode cX1_swap 27 = .ok (.aload_n 0, 1) := by decide +kernel
theorem dX1_swap_28 : decode cX1_swap 28 = .ok (.getfield 31, 3) := by decide +kernel
theorem dX1_swap_31 : decode cX1_swap 31 = .ok (.goto 4, 3) := by decide +kernel
theorem dX1_swap_34 : decode cX1_swap 34 = .ok (.iload_n 2, 1) := by decide +kernel
theorem dX1_swap_35 : decode cX1_swap 35 = .ok (.istore_n 3, 1) := by decide +kernel
theorem dX1_swap_36 : decode cX1_swap 36 = .ok (.aload_n 0, 1) := by decide +kernel
theorem dX1_swap_37 : decode cX1_swap 37 = .ok (.getfield 31, 3) := by decide +kernel
theorem dX1_swap_40 : decode cX1_swap 40 = .ok (.iload_n 3, 1) := by decide +kernel
theorem dX1_swap_41 : decode cX1_swap 41 = .ok (.iload_n 1, 1) := by decide +kernel
theorem dX1_swap_42 : decode cX1_swap 42 = .ok (.isub, 1) := by decide +kernel
theorem dX1_swap_43 : decode cX1_swap 43 = .ok (.isub, 1) := by decide +kernel
theorem dX1_swap_44 : decode cX1_swap 44 = .ok (.aload_n 0, 1) := by decide +kernel
theorem dX1_swap_45 : decode cX1_swap 45 = .ok (.getfield 38, 3) := by decide +kernel
theorem dX1_swap_48 : decode cX1_swap 48 = .ok (.iadd, 1) := by decide +kernel
theorem dX1_swap_49 : decode cX1_swap 49 = .ok (.sipush 3000, 3) := by decide +kernel
theorem dX1_swap_52 : decode cX1_swap 52 = .ok (.if_icmp .le 6, 3) := by decide +kernel
theorem dX1_swap_55 : decode cX1_swap 55 = .ok (.bipush (-3), 2) := by decide +kernel
theorem dX1_swap_57 : decode cX1_swap 57 = .ok (.ireturn, 1) := by decide +kernel
theorem dX1_swap_58 : decode cX1_swap 58 = .ok (.aload_n 0, 1) := by decide +kernel
theorem dX1_swap_59 : decode cX1_swap 59 = .ok (.iload_n 1, 1) := by decide +kernel
theorem dX1_swap_60 : decode cX1_swap 60 = .ok (.iload_n 3, 1) := by decide +kernel
theorem dX1_swap_61 : decode cX1_swap 61 = .ok (.invokevirtual 69, 3) := by decide +kernel
theorem dX1_swap_64 : decode cX1_swap 64 = .ok (.aload_n 0, 1) := by decide +kernel
theorem dX1_swap_65 : decode cX1_swap 65 = .ok (.iload_n 1, 1) := by decide +kernel
theorem dX1_swap_66 : decode cX1_swap 66 = .ok (.invokevirtual 66, 3) := by decide +kernel
theorem dX1_swap_69 : decode cX1_swap 69 = .ok (.ireturn, 1) := by decide +kernel
theorem dX1_take_0 : decode cX1_take 0 = .ok (.iload_n 1, 1) := by decide +kernel
theorem dX1_take_1 : decode cX1_take 1 = .ok (.ifCond .lt 11, 3) := by decide +kernel
theorem dX1_take_4 : decode cX1_take 4 = .ok (.iload_n 1, 1) := by decide +kernel
theorem dX1_take_5 : decode cX1_take 5 = .ok (.aload_n 0, 1) := by decide +kernel
theorem dX1_take_6 : decode cX1_take 6 = .ok (.getfield 31, 3) := by decide +kernel
theorem dX1_take_9 : decode cX1_take 9 = .ok (.if_icmp .lt 5, 3) := by decide +kernel
theorem dX1_take_12 : decode cX1_take 12 = .ok (.iconst (-1), 1) := by decide +kernel
theorem dX1_take_13 : decode cX1_take 13 = .ok (.ireturn, 1) := by decide +kernel
theorem dX1_take_14 : decode cX1_take 14 = .ok (.aload_n 0, 1) := by decide +kernel
theorem dX1_take_15 : decode cX1_take 15 = .ok (.getfield 9, 3) := by decide +kernel
theorem dX1_take_18 : decode cX1_take 18 = .ok (.iload_n 1, 1) := by decide +kernel
theorem dX1_take_19 : decode cX1_take 19 = .ok (.iaload, 1) := by decide +kernel
theorem dX1_take_20 : decode cX1_take 20 = .ok (.istore_n 2, 1) := by decide +kernel
theorem dX1_take_21 : decode cX1_take 21 = .ok (.aload_n 0, 1) := by decide +kernel
theorem dX1_take_22 : decode cX1_take 22 = .ok (.iload_n 1, 1) := by decide +kernel
theorem dX1_take_23 : decode cX1_take 23 = .ok (.iload_n 1, 1) := by decide +kernel
theorem dX1_take_24 : decode cX1_take 24 = .ok (.iconst 1, 1) := by decide +kernel
theorem dX1_take_25 : decode cX1_take 25 = .ok (.iadd, 1) := by decide +kernel
theorem dX1_take_26 : decode cX1_take 26 = .ok (.invokevirtual 69, 3) := by decide +kernel
theorem dX1_take_29 : decode cX1_take 29 = .ok (.iload_n 2, 1) := by decide +kernel
theorem dX1_take_30 : decode cX1_take 30 = .ok (.ireturn, 1) := by decide +kernel
theorem dX1_set_0 : decode cX1_set 0 = .ok (.iload_n 1, 1) := by decide +kernel
theorem dX1_set_1 : decode cX1_set 1 = .ok (.ifCond .lt 19, 3) := by decide +kernel
theorem dX1_set_4 : decode cX1_set 4 = .ok (.iload_n 1, 1) := by decide +kernel
theorem dX1_set_5 : decode cX1_set 5 = .ok (.aload_n 0, 1) := by decide +kernel
theorem dX1_set_6 : decode cX1_set 6 = .ok (.getfield 31, 3) := by decide +kernel
theorem dX1_set_9 : decode cX1_set 9 = .ok (.if_icmp .ge 11, 3) := by decide +kernel
theorem dX1_set_12 : decode cX1_set 12 = .ok (.iload_n 2, 1) := by decide +kernel
theorem dX1_set_13 : decode cX1_set 13 = .ok (.i2l, 1) := by decide +kernel
theorem dX1_set_14 : decode cX1_set 14 = .ok (.invokestatic 34, 3) := by decide +kernel
theorem dX1_set_17 : decode cX1_set 17 = .ok (.ifCond .ne 5, 3) := by decide +kernel
theorem dX1_set_20 : decode cX1_set 20 = .ok (.iconst (-1), 1) := by decide +kernel
theorem dX1_set_21 : decode cX1_set 21 = .ok (.ireturn, 1) := by decide +kernel
theorem dX1_set_22 : decode cX1_set 22 = .ok (.aload_n 0, 1) := by decide +kernel
theorem dX1_set_23 : decode cX1_set 23 = .ok (.getfield 9, 3) := by decide +kernel
theorem dX1_set_26 : decode cX1_set 26 = .ok (.iload_n 1, 1) := by decide +kernel
theorem dX1_set_27 : decode cX1_set 27 = .ok (.iaload, 1) := by decide +kernel
theorem dX1_set_28 : decode cX1_set 28 = .ok (.istore_n 3, 1) := by decide +kernel
theorem dX1_set_29 : decode cX1_set 29 = .ok (.aload_n 0, 1) := by decide +kernel
theorem dX1_set_30 : decode cX1_set 30 = .ok (.getfield 9, 3) := by decide +kernel
theorem dX1_set_33 : decode cX1_set 33 = .ok (.iload_n 1, 1) := by decide +kernel
theorem dX1_set_34 : decode cX1_set 34 = .ok (.iload_n 2, 1) := by decide +kernel
theorem dX1_set_35 : decode cX1_set 35 = .ok (.iastore, 1) := by decide +kernel
theorem dX1_set_36 : decode cX1_set 36 = .ok (.iload_n 3, 1) := by decide +kernel
theorem dX1_set_37 : decode cX1_set 37 = .ok (.ireturn, 1) := by decide +kernel
theorem dX1_get_0 : decode cX1_get 0 = .ok (.iload_n 1, 1) := by decide +kernel
theorem dX1_get_1 : decode cX1_get 1 = .ok (.ifCond .lt 11, 3) := by decide +kernel
theorem dX1_get_4 : decode cX1_get 4 = .ok (.iload_n 1, 1) := by decide +kernel
theorem dX1_get_5 : decode cX1_get 5 = .ok (.aload_n 0, 1) := by decide +kernel
theorem dX1_get_6 : decode cX1_get 6 = .ok (.getfield 31, 3) := by decide +kernel
theorem dX1_get_9 : decode cX1_get 9 = .ok (.if_icmp .lt 7, 3) := by decide +kernel
theorem dX1_get_12 : decode cX1_get 12 = .ok (.iconst (-1), 1) := by decide +kernel
theorem dX1_get_13 : decode cX1_get 13 = .ok (.goto 9, 3) := by decide +kernel
theorem dX1_get_16 : decode cX1_get 16 = .ok (.aload_n 0, 1) := by decide +kernel
theorem dX1_get_17 : decode cX1_get 17 = .ok (.getfield 9, 3) := by decide +kernel
theorem dX1_get_20 : decode cX1_get 20 = .ok (.iload_n 1, 1) := by decide +kernel
theorem dX1_get_21 : decode cX1_get 21 = .ok (.iaload, 1) := by decide +kernel
theorem dX1_get_22 : decode cX1_get 22 = .ok (.ireturn, 1) := by decide +kernel
theorem dX1_turn_0 : decode cX1_turn 0 = .ok (.iconst 0, 1) := by decide +kernel
theorem dX1_turn_1 : decode cX1_turn 1 = .ok (.istore_n 1, 1) := by decide +kernel
theorem dX1_turn_2 : decode cX1_turn 2 = .ok (.iload_n 1, 1) := by decide +kernel
theorem dX1_turn_3 : decode cX1_turn 3 = .ok (.aload_n 0, 1) := by decide +kernel
theorem dX1_turn_4 : decode cX1_turn 4 = .ok (.getfield 31, 3) := by decide +kernel
theorem dX1_turn_7 : decode cX1_turn 7 = .ok (.iconst 2, 1) := by decide +kernel
theorem dX1_turn_8 : decode cX1_turn 8 = .ok (.idiv, 1) := by decide +kernel
theorem dX1_turn_9 : decode cX1_turn 9 = .ok (.if_icmp .ge 49, 3) := by decide +kernel
theorem dX1_turn_12 : decode cX1_turn 12 = .ok (.aload_n 0, 1) := by decide +kernel
theorem dX1_turn_13 : decode cX1_turn 13 = .ok (.getfield 9, 3) := by decide +kernel
theorem dX1_turn_16 : decode cX1_turn 16 = .ok (.iload_n 1, 1) := by decide +kernel
theorem dX1_turn_17 : decode cX1_turn 17 = .ok (.iaload, 1) := by decide +kernel
theorem dX1_turn_18 : decode cX1_turn 18 = .ok (.istore_n 2, 1) := by decide +kernel
theorem dX1_turn_19 : decode cX1_turn 19 = .ok (.aload_n 0, 1) := by decide +kernel
theorem dX1_turn_20 : decode cX1_turn 20 = .ok (.getfield 9, 3) := by decide +kernel
theorem dX1_turn_23 : decode cX1_turn 23 = .ok (.iload_n 1, 1) := by decide +kernel
theorem dX1_turn_24 : decode cX1_turn 24 = .ok (.aload_n 0, 1) := by decide +kernel
theorem dX1_turn_25 : decode cX1_turn 25 = .ok (.getfield 9, 3) := by decide +kernel
theorem dX1_turn_28 : decode cX1_turn 28 = .ok (.aload_n 0, 1) := by decide +kernel
theorem dX1_turn_29 : decode cX1_turn 29 = .ok (.getfield 31, 3) := by decide +kernel
theorem dX1_turn_32 : decode cX1_turn 32 = .ok (.iconst 1, 1) := by decide +kernel
theorem dX1_turn_33 : decode cX1_turn 33 = .ok (.isub, 1) := by decide +kernel
theorem dX1_turn_34 : decode cX1_turn 34 = .ok (.iload_n 1, 1) := by decide +kernel
theorem dX1_turn_35 : decode cX1_turn 35 = .ok (.isub, 1) := by decide +kernel
theorem dX1_turn_36 : decode cX1_turn 36 = .ok (.iaload, 1) := by decide +kernel
theorem dX1_turn_37 : decode cX1_turn 37 = .ok (.iastore, 1) := by decide +kernel
theorem dX1_turn_38 : decode cX1_turn 38 = .ok (.aload_n 0, 1) := by decide +kernel
theorem dX1_turn_39 : decode cX1_turn 39 = .ok (.getfield 9, 3) := by decide +kernel
theorem dX1_turn_42 : decode cX1_turn 42 = .ok (.aload_n 0, 1) := by decide +kernel
theorem dX1_turn_43 : decode cX1_turn 43 = .ok (.getfield 31, 3) := by decide +kernel
theorem dX1_turn_46 : decode cX1_turn 46 = .ok (.iconst 1, 1) := by decide +kernel
theorem dX1_turn_47 : decode cX1_turn 47 = .ok (.isub, 1) := by decide +kernel
theorem dX1_turn_48 : decode cX1_turn 48 = .ok (.iload_n 1, 1) := by decide +kernel
theorem dX1_turn_49 : decode cX1_turn 49 = .ok (.isub, 1) := by decide +kernel
theorem dX1_turn_50 : decode cX1_turn 50 = .ok (.iload_n 2, 1) := by decide +kernel
theorem dX1_turn_51 : decode cX1_turn 51 = .ok (.iastore, 1) := by decide +kernel
theorem dX1_turn_52 : decode cX1_turn 52 = .ok (.iinc 1 1, 3) := by decide +kernel
theorem dX1_turn_55 : decode cX1_turn 55 = .ok (.goto (-53), 3) := by decide +kernel
theorem dX1_turn_58 : decode cX1_turn 58 = .ok (.aload_n 0, 1) := by decide +kernel
theorem dX1_turn_59 : decode cX1_turn 59 = .ok (.getfield 31, 3) := by decide +kernel
theorem dX1_turn_62 : decode cX1_turn 62 = .ok (.ireturn, 1) := by decide +kernel
theorem dX1_length_0 : decode cX1_length 0 = .ok (.iload_n 1, 1) := by decide +kernel
theorem dX1_length_1 : decode cX1_length 1 = .ok (.ifCond .ge 5, 3) := by decide +kernel
theorem dX1_length_4 : decode cX1_length 4 = .ok (.iconst (-1), 1) := by decide +kernel
theorem dX1_length_5 : decode cX1_length 5 = .ok (.ireturn, 1) := by decide +kernel
theorem dX1_length_6 : decode cX1_length 6 = .ok (.iload_n 1, 1) := by decide +kernel
theorem dX1_length_7 : decode cX1_length 7 = .ok (.sipush 3000, 3) := by decide +kernel
theorem dX1_length_10 : decode cX1_length 10 = .ok (.if_icmp .le 6, 3) := by decide +kernel
theorem dX1_length_13 : decode cX1_length 13 = .ok (.bipush (-3), 2) := by decide +kernel
theorem dX1_length_15 : decode cX1_length 15 = .ok (.ireturn, 1) := by decide +kernel
theorem dX1_length_16 : decode cX1_length 16 = .ok (.aload_n 0, 1) := by decide +kernel
theorem dX1_length_17 : decode cX1_length 17 = .ok (.getfield 31, 3) := by decide +kernel
theorem dX1_length_20 : decode cX1_length 20 = .ok (.istore_n 2, 1) := by decide +kernel
theorem dX1_length_21 : decode cX1_length 21 = .ok (.iload_n 2, 1) := by decide +kernel
theorem dX1_length_22 : decode cX1_length 22 = .ok (.iload_n 1, 1) := by decide +kernel
theorem dX1_length_23 : decode cX1_length 23 = .ok (.if_icmp .ge 16, 3) := by decide +kernel
theorem dX1_length_26 : decode cX1_length 26 = .ok (.aload_n 0, 1) := by decide +kernel
theorem dX1_length_27 : decode cX1_length 27 = .ok (.getfield 9, 3) := by decide +kernel
theorem dX1_length_30 : decode cX1_length 30 = .ok (.iload_n 2, 1) := by decide +kernel
theorem dX1_length_31 : decode cX1_length 31 = .ok (.iconst 0, 1) := by decide +kernel
theorem dX1_length_32 : decode cX1_length 32 = .ok (.iastore, 1) := by decide +kernel
theorem dX1_length_33 : decode cX1_length 33 = .ok (.iinc 2 1, 3) := by decide +kernel
theorem dX1_length_36 : decode cX1_length 36 = .ok (.goto (-15), 3) := by decide +kernel
theorem dX1_length_39 : decode cX1_length 39 = .ok (.aload_n 0, 1) := by decide +kernel
theorem dX1_length_40 : decode cX1_length 40 = .ok (.iload_n 1, 1) := by decide +kernel
theorem dX1_length_41 : decode cX1_length 41 = .ok (.putfield 31, 3) := by decide +kernel
theorem dX1_length_44 : decode cX1_length 44 = .ok (.aload_n 0, 1) := by decide +kernel
theorem dX1_length_45 : decode cX1_length 45 = .ok (.getfield 31, 3) := by decide +kernel
theorem dX1_length_48 : decode cX1_length 48 = .ok (.ireturn, 1) := by decide +kernel
theorem dX1_find_0 : decode cX1_find 0 = .ok (.iload_n 2, 1) := by decide +kernel
theorem dX1_find_1 : decode cX1_find 1 = .ok (.ifCond .eq 42, 3) := by decide +kernel
theorem dX1_find_4 : decode cX1_find 4 = .ok (.iload_n 1, 1) := by decide +kernel
theorem dX1_find_5 : decode cX1_find 5 = .ok (.aload_n 0, 1) := by decide +kernel
theorem dX1_find_6 : decode cX1_find 6 = .ok (.getfield 31, 3) := by decide +kernel
theorem dX1_find_9 : decode cX1_find 9 = .ok (.if_icmp .le 10, 3) := by decide +kernel
theorem dX1_find_12 : decode cX1_find 12 = .ok (.aload_n 0, 1) := by decide +kernel
theorem dX1_find_13 : decode cX1_find 13 = .ok (.getfield 31, 3) := by decide +kernel
theorem dX1_find_16 : decode cX1_find 16 = .ok (.goto 4, 3) := by decide +kernel
theorem dX1_find_19 : decode cX1_find 19 = .ok (.iload_n 1, 1) := by decide +kernel
theorem dX1_find_20 : decode cX1_find 20 = .ok (.istore_n 3, 1) := by decide +kernel
theorem dX1_find_21 : decode cX1_find 21 = .ok (.iload_n 3, 1) := by decide +kernel
theorem dX1_find_22 : decode cX1_find 22 = .ok (.ifCond .lt 19, 3) := by decide +kernel
theorem dX1_find_25 : decode cX1_find 25 = .ok (.aload_n 0, 1) := by decide +kernel
theorem dX1_find_26 : decode cX1_find 26 = .ok (.iload_n 3, 1) := by decide +kernel
theorem dX1_find_27 : decode cX1_find 27 = .ok (.invokevirtual 72, 3) := by decide +kernel
theorem dX1_find_30 : decode cX1_find 30 = .ok (.ifCond .eq 5, 3) := by decide +kernel
theorem dX1_find_33 : decode cX1_find 33 = .ok (.iload_n 3, 1) := by decide +kernel
theorem dX1_find_34 : decode cX1_find 34 = .ok (.ireturn, 1) := by decide +kernel
theorem dX1_find_35 : decode cX1_find 35 = .ok (.iinc 3 (-1), 3) := by decide +kernel
theorem dX1_find_38 : decode cX1_find 38 = .ok (.goto (-17), 3) := by decide +kernel
theorem dX1_find_41 : decode cX1_find 41 = .ok (.iconst (-1), 1) := by decide +kernel
theorem dX1_find_42 : decode cX1_find 42 = .ok (.ireturn, 1) := by decide +kernel
theorem dX1_find_43 : decode cX1_find 43 = .ok (.iload_n 1, 1) := by decide +kernel
theorem dX1_find_44 : decode cX1_find 44 = .ok (.ifCond .ge 7, 3) := by decide +kernel
theorem dX1_find_47 : decode cX1_find 47 = .ok (.iconst 0, 1) := by decide +kernel
theorem dX1_find_48 : decode cX1_find 48 = .ok (.goto 19, 3) := by decide +kernel
theorem dX1_find_51 : decode cX1_find 51 = .ok (.iload_n 1, 1) := by decide +kernel
theorem dX1_find_52 : decode cX1_find 52 = .ok (.aload_n 0, 1) := by decide +kernel
theorem dX1_find_53 : decode cX1_find 53 = .ok (.getfield 31, 3) := by decide +kernel
theorem dX1_find_56 : decode cX1_find 56 = .ok (.if_icmp .le 10, 3) := by decide +kernel
theorem dX1_find_59 : decode cX1_find 59 = .ok (.aload_n 0, 1) := by decide +kernel
theorem dX1_find_60 : decode cX1_find 60 = .ok (.getfield 31, 3) := by decide +kernel
theorem dX1_find_63 : decode cX1_find 63 = .ok (.goto 4, 3) := by decide +kernel
theorem dX1_find_66 : decode cX1_find 66 = .ok (.iload_n 1, 1) := by decide +kernel
theorem dX1_find_67 : decode cX1_find 67 = .ok (.istore_n 3, 1) := by decide +kernel
theorem dX1_find_68 : decode cX1_find 68 = .ok (.iload_n 3, 1) := by decide +kernel
theorem dX1_find_69 : decode cX1_find 69 = .ok (.aload_n 0, 1) := by decide +kernel
theorem dX1_find_70 : decode cX1_find 70 = .ok (.getfield 31, 3) := by decide +kernel
theorem dX1_find_73 : decode cX1_find 73 = .ok (.if_icmp .gt 19, 3) := by decide +kernel
theorem dX1_find_76 : decode cX1_find 76 = .ok (.aload_n 0, 1) := by decide +kernel
theorem dX1_find_77 : decode cX1_find 77 = .ok (.iload_n 3, 1) := by decide +kernel
theorem dX1_find_78 : decode cX1_find 78 = .ok (.invokevirtual 72, 3) := by decide +kernel
theorem dX1_find_81 : decode cX1_find 81 = .ok (.ifCond .eq 5, 3) := by decide +kernel
theorem dX1_find_84 : decode cX1_find 84 = .ok (.iload_n 3, 1) := by decide +kernel
theorem dX1_find_85 : decode cX1_find 85 = .ok (.ireturn, 1) := by decide +kernel
theorem dX1_find_86 : decode cX1_find 86 = .ok (.iinc 3 1, 3) := by decide +kernel
theorem dX1_find_89 : decode cX1_find 89 = .ok (.goto (-21), 3) := by decide +kernel
theorem dX1_find_92 : decode cX1_find 92 = .ok (.iconst (-1), 1) := by decide +kernel
theorem dX1_find_93 : decode cX1_find 93 = .ok (.ireturn, 1) := by decide +kernel
theorem dX1_stands_0 : decode cX1_stands 0 = .ok (.iload_n 1, 1) := by decide +kernel
theorem dX1_stands_1 : decode cX1_stands 1 = .ok (.aload_n 0, 1) := by decide +kernel
theorem dX1_stands_2 : decode cX1_stands 2 = .ok (.getfield 38, 3) := by decide +kernel
theorem dX1_stands_5 : decode cX1_stands 5 = .ok (.iadd, 1) := by decide +kernel
theorem dX1_stands_6 : decode cX1_stands 6 = .ok (.aload_n 0, 1) := by decide +kernel
theorem dX1_stands_7 : decode cX1_stands 7 = .ok (.getfield 31, 3) := by decide +kernel
theorem dX1_stands_10 : decode cX1_stands 10 = .ok (.if_icmp .le 5, 3) := by decide +kernel
theorem dX1_stands_13 : decode cX1_stands 13 = .ok (.iconst 0, 1) := by decide +kernel
theorem dX1_stands_14 : decode cX1_stands 14 = .ok (.ireturn, 1) := by decide +kernel
theorem dX1_stands_15 : decode cX1_stands 15 = .ok (.iconst 0, 1) := by decide +kernel
theorem dX1_stands_16 : decode cX1_stands 16 = .ok (.istore_n 2, 1) := by decide +kernel
theorem dX1_stands_17 : decode cX1_stands 17 = .ok (.iload_n 2, 1) := by decide +kernel
theorem dX1_stands_18 : decode cX1_stands 18 = .ok (.aload_n 0, 1) := by decide +kernel
theorem dX1_stands_19 : decode cX1_stands 19 = .ok (.getfield 38, 3) := by decide +kernel
theorem dX1_stands_22 : decode cX1_stands 22 = .ok (.if_icmp .ge 28, 3) := by decide +kernel
theorem dX1_stands_25 : decode cX1_stands 25 = .ok (.aload_n 0, 1) := by decide +kernel
theorem dX1_stands_26 : decode cX1_stands 26 = .ok (.getfield 9, 3) := by decide +kernel
theorem dX1_stands_29 : decode cX1_stands 29 = .ok (.iload_n 1, 1) := by decide +kernel
theorem dX1_stands_30 : decode cX1_stands 30 = .ok (.iload_n 2, 1) := by decide +kernel
theorem dX1_stands_31 : decode cX1_stands 31 = .ok (.iadd, 1) := by decide +kernel
theorem dX1_stands_32 : decode cX1_stands 32 = .ok (.iaload, 1) := by decide +kernel
theorem dX1_stands_33 : decode cX1_stands 33 = .ok (.aload_n 0, 1) := by decide +kernel
theorem dX1_stands_34 : decode cX1_stands 34 = .ok (.getfield 13, 3) := by decide +kernel
theorem dX1_stands_37 : decode cX1_stands 37 = .ok (.iload_n 2, 1) := by decide +kernel
theorem dX1_stands_38 : decode cX1_stands 38 = .ok (.iaload, 1) := by decide +kernel
theorem dX1_stands_39 : decode cX1_stands 39 = .ok (.if_icmp .eq 5, 3) := by decide +kernel
theorem dX1_stands_42 : decode cX1_stands 42 = .ok (.iconst 0, 1) := by decide +kernel
theorem dX1_stands_43 : decode cX1_stands 43 = .ok (.ireturn, 1) := by decide +kernel
theorem dX1_stands_44 : decode cX1_stands 44 = .ok (.iinc 2 1, 3) := by decide +kernel
theorem dX1_stands_47 : decode cX1_stands 47 = .ok (.goto (-30), 3) := by decide +kernel
theorem dX1_stands_50 : decode cX1_stands 50 = .ok (.iconst 1, 1) := by decide +kernel
theorem dX1_stands_51 : decode cX1_stands 51 = .ok (.ireturn, 1) := by decide +kernel
theorem dX1_look_0 : decode cX1_look 0 = .ok (.iconst 0, 1) := by decide +kernel
theorem dX1_look_1 : decode cX1_look 1 = .ok (.istore_n 2, 1) := by decide +kernel
theorem dX1_look_2 : decode cX1_look 2 = .ok (.iconst 0, 1) := by decide +kernel
theorem dX1_look_3 : decode cX1_look 3 = .ok (.istore_n 3, 1) := by decide +kernel
theorem dX1_look_4 : decode cX1_look 4 = .ok (.iload_n 3, 1) := by decide +kernel
theorem dX1_look_5 : decode cX1_look 5 = .ok (.aload_n 0, 1) := by decide +kernel
theorem dX1_look_6 : decode cX1_look 6 = .ok (.getfield 31, 3) := by decide +kernel
theorem dX1_look_9 : decode cX1_look 9 = .ok (.if_icmp .ge 22, 3) := by decide +kernel
theorem dX1_look_12 : decode cX1_look 12 = .ok (.iload_n 2, 1) := by decide +kernel
theorem dX1_look_13 : decode cX1_look 13 = .ok (.iload_n 3, 1) := by decide +kernel
theorem dX1_look_14 : decode cX1_look 14 = .ok (.iconst 1, 1) := by decide +kernel
theorem dX1_look_15 : decode cX1_look 15 = .ok (.iadd, 1) := by decide +kernel
theorem dX1_look_16 : decode cX1_look 16 = .ok (.aload_n 0, 1) := by decide +kernel
theorem dX1_look_17 : decode cX1_look 17 = .ok (.getfield 9, 3) := by decide +kernel
theorem dX1_look_20 : decode cX1_look 20 = .ok (.iload_n 3, 1) := by decide +kernel
theorem dX1_look_21 : decode cX1_look 21 = .ok (.iaload, 1) := by decide +kernel
theorem dX1_look_22 : decode cX1_look 22 = .ok (.imul, 1) := by decide +kernel
theorem dX1_look_23 : decode cX1_look 23 = .ok (.iadd, 1) := by decide +kernel
theorem dX1_look_24 : decode cX1_look 24 = .ok (.istore_n 2, 1) := by decide +kernel
theorem dX1_look_25 : decode cX1_look 25 = .ok (.iinc 3 1, 3) := by decide +kernel
theorem dX1_look_28 : decode cX1_look 28 = .ok (.goto (-24), 3) := by decide +kernel
theorem dX1_look_31 : decode cX1_look 31 = .ok (.iload_n 1, 1) := by decide +kernel
theorem dX1_look_32 : decode cX1_look 32 = .ok (.ifCond .ne 10, 3) := by decide +kernel
theorem dX1_look_35 : decode cX1_look 35 = .ok (.aload_n 0, 1) := by decide +kernel
theorem dX1_look_36 : decode cX1_look 36 = .ok (.getfield 31, 3) := by decide +kernel
theorem dX1_look_39 : decode cX1_look 39 = .ok (.goto 25, 3) := by decide +kernel
theorem dX1_look_42 : decode cX1_look 42 = .ok (.iload_n 1, 1) := by decide +kernel
theorem dX1_look_43 : decode cX1_look 43 = .ok (.iconst 1, 1) := by decide +kernel
theorem dX1_look_44 : decode cX1_look 44 = .ok (.if_icmp .ne 10, 3) := by decide +kernel
theorem dX1_look_47 : decode cX1_look 47 = .ok (.aload_n 0, 1) := by decide +kernel
theorem dX1_look_48 : decode cX1_look 48 = .ok (.getfield 38, 3) := by decide +kernel
theorem dX1_look_51 : decode cX1_look 51 = .ok (.goto 13, 3) := by decide +kernel
theorem dX1_look_54 : decode cX1_look 54 = .ok (.iload_n 1, 1) := by decide +kernel
theorem dX1_look_55 : decode cX1_look 55 = .ok (.iconst 2, 1) := by decide +kernel
theorem dX1_look_56 : decode cX1_look 56 = .ok (.if_icmp .ne 7, 3) := by decide +kernel
theorem dX1_look_59 : decode cX1_look 59 = .ok (.iload_n 2, 1) := by decide +kernel
theorem dX1_look_60 : decode cX1_look 60 = .ok (.goto 4, 3) := by decide +kernel
theorem dX1_look_63 : decode cX1_look 63 = .ok (.iconst (-1), 1) := by decide +kernel
theorem dX1_look_64 : decode cX1_look 64 = .ok (.ireturn, 1) := by decide +kernel
theorem dX1_compare_0 : decode cX1_compare 0 = .ok (.iconst 0, 1) := by decide +kernel
theorem dX1_compare_1 : decode cX1_compare 1 = .ok (.istore_n 1, 1) := by decide +kernel
theorem dX1_compare_2 : decode cX1_compare 2 = .ok (.iload_n 1, 1) := by decide +kernel
theorem dX1_compare_3 : decode cX1_compare 3 = .ok (.aload_n 0, 1) := by decide +kernel
theorem dX1_compare_4 : decode cX1_compare 4 = .ok (.getfield 31, 3) := by decide +kernel
theorem dX1_compare_7 : decode cX1_compare 7 = .ok (.if_icmp .ge 53, 3) := by decide +kernel
theorem dX1_compare_10 : decode cX1_compare 10 = .ok (.iload_n 1, 1) := by decide +kernel
theorem dX1_compare_11 : decode cX1_compare 11 = .ok (.aload_n 0, 1) := by decide +kernel
theorem dX1_compare_12 : decode cX1_compare 12 = .ok (.getfield 38, 3) := by decide +kernel
theorem dX1_compare_15 : decode cX1_compare 15 = .ok (.if_icmp .ge 45, 3) := by decide +kernel
theorem dX1_compare_18 : decode cX1_compare 18 = .ok (.aload_n 0, 1) := by decide +kernel
theorem dX1_compare_19 : decode cX1_compare 19 = .ok (.getfield 9, 3) := by decide +kernel
theorem dX1_compare_22 : decode cX1_compare 22 = .ok (.iload_n 1, 1) := by decide +kernel
theorem dX1_compare_23 : decode cX1_compare 23 = .ok (.iaload, 1) := by decide +kernel
theorem dX1_compare_24 : decode cX1_compare 24 = .ok (.aload_n 0, 1) := by decide +kernel
theorem dX1_compare_25 : decode cX1_compare 25 = .ok (.getfield 13, 3) := by decide +kernel
theorem dX1_compare_28 : decode cX1_compare 28 = .ok (.iload_n 1, 1) := by decide +kernel
theorem dX1_compare_29 : decode cX1_compare 29 = .ok (.iaload, 1) := by decide +kernel
theorem dX1_compare_30 : decode cX1_compare 30 = .ok (.if_icmp .eq 24, 3) := by decide +kernel
theorem dX1_compare_33 : decode cX1_compare 33 = .ok (.aload_n 0, 1) := by decide +kernel
theorem dX1_compare_34 : decode cX1_compare 34 = .ok (.getfield 9, 3) := by decide +kernel
theorem dX1_compare_37 : decode cX1_compare 37 = .ok (.iload_n 1, 1) := by decide +kernel
theorem dX1_compare_38 : decode cX1_compare 38 = .ok (.iaload, 1) := by decide +kernel
theorem dX1_compare_39 : decode cX1_compare 39 = .ok (.aload_n 0, 1) := by decide +kernel
theorem dX1_compare_40 : decode cX1_compare 40 = .ok (.getfield 13, 3) := by decide +kernel
theorem dX1_compare_43 : decode cX1_compare 43 = .ok (.iload_n 1, 1) := by decide +kernel
theorem dX1_compare_44 : decode cX1_compare 44 = .ok (.iaload, 1) := by decide +kernel
theorem dX1_compare_45 : decode cX1_compare 45 = .ok (.if_icmp .ge 7, 3) := by decide +kernel
theorem dX1_compare_48 : decode cX1_compare 48 = .ok (.iconst (-1), 1) := by decide +kernel
theorem dX1_compare_49 : decode cX1_compare 49 = .ok (.goto 4, 3) := by decide +kernel
theorem dX1_compare_52 : decode cX1_compare 52 = .ok (.iconst 1, 1) := by decide +kernel
theorem dX1_compare_53 : decode cX1_compare 53 = .ok (.ireturn, 1) := by decide +kernel
theorem dX1_compare_54 : decode cX1_compare 54 = .ok (.iinc 1 1, 3) := by decide +kernel
theorem dX1_compare_57 : decode cX1_compare 57 = .ok (.goto (-55), 3) := by decide +kernel
theorem dX1_compare_60 : decode cX1_compare 60 = .ok (.aload_n 0, 1) := by decide +kernel
theorem dX1_compare_61 : decode cX1_compare 61 = .ok (.getfield 31, 3) := by decide +kernel
theorem dX1_compare_64 : decode cX1_compare 64 = .ok (.aload_n 0, 1) := by decide +kernel
theorem dX1_compare_65 : decode cX1_compare 65 = .ok (.getfield 38, 3) := by decide +kernel
theorem dX1_compare_68 : decode cX1_compare 68 = .ok (.if_icmp .ge 7, 3) := by decide +kernel
theorem dX1_compare_71 : decode cX1_compare 71 = .ok (.iconst (-1), 1) := by decide +kernel
theorem dX1_compare_72 : decode cX1_compare 72 = .ok (.goto 19, 3) := by decide +kernel
theorem dX1_compare_75 : decode cX1_compare 75 = .ok (.aload_n 0, 1) := by decide +kernel
theorem dX1_compare_76 : decode cX1_compare 76 = .ok (.getfield 31, 3) := by decide +kernel
theorem dX1_compare_79 : decode cX1_compare 79 = .ok (.aload_n 0, 1) := by decide +kernel
theorem dX1_compare_80 : decode cX1_compare 80 = .ok (.getfield 38, 3) := by decide +kernel
theorem dX1_compare_83 : decode cX1_compare 83 = .ok (.if_icmp .le 7, 3) := by decide +kernel
theorem dX1_compare_86 : decode cX1_compare 86 = .ok (.iconst 1, 1) := by decide +kernel
theorem dX1_compare_87 : decode cX1_compare 87 = .ok (.goto 4, 3) := by decide +kernel
theorem dX1_compare_90 : decode cX1_compare 90 = .ok (.iconst 0, 1) := by decide +kernel
theorem dX1_compare_91 : decode cX1_compare 91 = .ok (.ireturn, 1) := by decide +kernel
end
section
/-! the tables' words by name (names.py) -/
def wA : List Cond := lw_tbl.filter goodWord
theorem wa_ {i : Nat} {w : Cond} (h : lw_tbl[i]? = some w) (hg : goodWord w = true) : w ∈ wA := List.mem_filter.mpr ⟨List.mem_of_getElem? h, hg⟩
theorem wA_in : ∀ w ∈ wA, w ∈ lw_tbl := fun _ h => (List.mem_filter.mp h).1
theorem gA_ {big : List Cond} (hb : ∀ w ∈ wA, w ∈ big) {w0 : Cond} (hc : w0 ∈ wA) : GoodIn big (w0 :: wA) := fun w h => by
  rcases List.mem_cons.mp h with rfl | h
  · exact ⟨hb _ hc, good_of_word (List.mem_filter.mp hc).2⟩
  · exact ⟨hb _ h, good_of_word (List.mem_filter.mp h).2⟩
theorem gW_ {big : List Cond} (hb : ∀ w ∈ wA, w ∈ big) {w : Cond} (h : w ∈ wA) : w ∈ big ∧ ((w.onTables && w.keeps) = true ∨ ∃ ty, w = .arrayClass ty) := ⟨hb _ h, good_of_word (List.mem_filter.mp h).2⟩
theorem gV_ {big : List Cond} (hb : ∀ w ∈ wA, w ∈ big) {own : String} {i : Nat} {C : String} {y : MethodName} {w0 : Cond} (h1 : Cond.methodLink own i y ∈ wA) (h2 : Cond.instanceMethod y ∈ wA) (h3 : Cond.selects C y y ∈ wA) (h4 : Cond.initialized C ∈ wA) (hc : w0 ∈ wA) : GoodIn big (wsV own i C y (w0 :: wA)) := fun w h => by
  rcases List.mem_append.mp h with h | h
  · simp only [List.mem_cons, List.not_mem_nil, or_false] at h
    rcases h with rfl | rfl | rfl | rfl
    · exact gW_ hb h1
    · exact gW_ hb h2
    · exact gW_ hb h3
    · exact gW_ hb h4
  · exact gA_ hb hc w h
theorem gS_ {big : List Cond} (hb : ∀ w ∈ wA, w ∈ big) {own : String} {i : Nat} {y : MethodName} {w0 : Cond} (h1 : Cond.methodLink own i y ∈ wA) (h2 : Cond.static y ∈ wA) (h4 : Cond.initialized y.cls ∈ wA) (hc : w0 ∈ wA) : GoodIn big (va_wsS own i y (w0 :: wA)) := fun w h => by
  rcases List.mem_append.mp h with h | h
  · simp only [List.mem_cons, List.not_mem_nil, or_false] at h
    rcases h with rfl | rfl | rfl
    · exact gW_ hb h1
    · exact gW_ hb h2
    · exact gW_ hb h4
  · exact gA_ hb hc w h
theorem k0 : Cond.selects RX0 yX0_putDigits yX0_putDigits ∈ wA := wa_ (i := 0) (by decide +kernel) (by decide +kernel)
theorem k1 : Cond.selects RX0 yX0_hasRoom yX0_hasRoom ∈ wA := wa_ (i := 1) (by decide +kernel) (by decide +kernel)
theorem k2 : Cond.selects RX0 yX0_makeGap yX0_makeGap ∈ wA := wa_ (i := 2) (by decide +kernel) (by decide +kernel)
theorem k3 : Cond.selects RX0 yX0_putWord yX0_putWord ∈ wA := wa_ (i := 3) (by decide +kernel) (by decide +kernel)
theorem k4 : Cond.selects RX0 yX0_putScrap yX0_putScrap ∈ wA := wa_ (i := 4) (by decide +kernel) (by decide +kernel)
theorem k5 : Cond.selects RX0 yX0_putSign yX0_putSign ∈ wA := wa_ (i := 5) (by decide +kernel) (by decide +kernel)
theorem k6 : Cond.selects RX0 yX0_isPlaceOrEnd yX0_isPlaceOrEnd ∈ wA := wa_ (i := 6) (by decide +kernel) (by decide +kernel)
theorem k7 : Cond.selects RX0 yX0_isPlace yX0_isPlace ∈ wA := wa_ (i := 7) (by decide +kernel) (by decide +kernel)
theorem k8 : Cond.selects RX0 yX0_findBackward yX0_findBackward ∈ wA := wa_ (i := 8) (by decide +kernel) (by decide +kernel)
theorem k9 : Cond.selects RX0 yX0_scrapStandsAt yX0_scrapStandsAt ∈ wA := wa_ (i := 9) (by decide +kernel) (by decide +kernel)
theorem k10 : Cond.selects RX0 yX0_findForward yX0_findForward ∈ wA := wa_ (i := 10) (by decide +kernel) (by decide +kernel)
theorem k11 : Cond.selects RX0 yX0_sumOfText yX0_sumOfText ∈ wA := wa_ (i := 11) (by decide +kernel) (by decide +kernel)
theorem k12 : Cond.selects RX1 yX1_digits yX1_digits ∈ wA := wa_ (i := 12) (by decide +kernel) (by decide +kernel)
theorem k13 : Cond.selects RX1 yX1_putDigits yX1_putDigits ∈ wA := wa_ (i := 13) (by decide +kernel) (by decide +kernel)
theorem k14 : Cond.selects RX1 yX1_full yX1_full ∈ wA := wa_ (i := 14) (by decide +kernel) (by decide +kernel)
theorem k15 : Cond.selects RX1 yX1_open yX1_open ∈ wA := wa_ (i := 15) (by decide +kernel) (by decide +kernel)
theorem k16 : Cond.selects RX1 yX1_letters yX1_letters ∈ wA := wa_ (i := 16) (by decide +kernel) (by decide +kernel)
theorem k17 : Cond.selects RX1 yX1_putScrap yX1_putScrap ∈ wA := wa_ (i := 17) (by decide +kernel) (by decide +kernel)
theorem k18 : Cond.selects RX1 yX1_close yX1_close ∈ wA := wa_ (i := 18) (by decide +kernel) (by decide +kernel)
theorem k19 : Cond.selects RX1 yX1_stands yX1_stands ∈ wA := wa_ (i := 19) (by decide +kernel) (by decide +kernel)
theorem k20 : Cond.initialized RL ∈ wA := wa_ (i := 20) (by decide +kernel) (by decide +kernel)
theorem k21 : Cond.initialized RX0 ∈ wA := wa_ (i := 21) (by decide +kernel) (by decide +kernel)
theorem k22 : Cond.initialized RX1 ∈ wA := wa_ (i := 22) (by decide +kernel) (by decide +kernel)
theorem k23 : Cond.initialized "java/lang/System" ∈ wA := wa_ (i := 23) (by decide +kernel) (by decide +kernel)
theorem k24 : Cond.initialized "java/lang/Math" ∈ wA := wa_ (i := 24) (by decide +kernel) (by decide +kernel)
theorem k25 : Cond.initialized RJ0 ∈ wA := wa_ (i := 25) (by decide +kernel) (by decide +kernel)
theorem k26 : Cond.initialized RJ1 ∈ wA := wa_ (i := 26) (by decide +kernel) (by decide +kernel)
theorem k27 : Cond.initialized RJ3 ∈ wA := wa_ (i := 27) (by decide +kernel) (by decide +kernel)
theorem k28 : Cond.initialized RJ2 ∈ wA := wa_ (i := 28) (by decide +kernel) (by decide +kernel)
theorem k29 : Cond.classLink RL 7 RX0 ∈ wA := wa_ (i := 29) (by decide +kernel) (by decide +kernel)
theorem k30 : Cond.instantiable RX0 4 ∈ wA := wa_ (i := 30) (by decide +kernel) (by decide +kernel)
theorem k31 : Cond.methodLink RL 9 yX0_init ∈ wA := wa_ (i := 31) (by decide +kernel) (by decide +kernel)
theorem k32 : Cond.instanceMethod yX0_init ∈ wA := wa_ (i := 32) (by decide +kernel) (by decide +kernel)
theorem k33 : Cond.code yX0_init cX0_init 1 none ∈ wA := wa_ (i := 33) (by decide +kernel) (by decide +kernel)
theorem k34 : Cond.methodLink RX0 1 objectInit ∈ wA := wa_ (i := 34) (by decide +kernel) (by decide +kernel)
theorem k35 : Cond.instanceMethod objectInit ∈ wA := wa_ (i := 35) (by decide +kernel) (by decide +kernel)
theorem k36 : Cond.code objectInit ⟨#[0xb1]⟩ 1 none ∈ wA := wa_ (i := 36) (by decide +kernel) (by decide +kernel)
theorem k37 : Cond.fieldLink RX0 9 "TextLoom" "textSigns" "[I" ∈ wA := wa_ (i := 37) (by decide +kernel) (by decide +kernel)
theorem k38 : Cond.fieldLink RX0 13 "TextLoom" "scrapSigns" "[I" ∈ wA := wa_ (i := 38) (by decide +kernel) (by decide +kernel)
theorem k39 : Cond.fieldLink RX0 16 "TextLoom" "textCount" "I" ∈ wA := wa_ (i := 39) (by decide +kernel) (by decide +kernel)
theorem k40 : Cond.fieldLink RX0 20 "TextLoom" "scrapCount" "I" ∈ wA := wa_ (i := 40) (by decide +kernel) (by decide +kernel)
theorem k50 : Cond.arrayClass .int ∈ wA := wa_ (i := 50) (by decide +kernel) (by decide +kernel)
theorem k51 : Cond.methodLink RL 13 yX0_note ∈ wA := wa_ (i := 51) (by decide +kernel) (by decide +kernel)
theorem k52 : Cond.instanceMethod yX0_note ∈ wA := wa_ (i := 52) (by decide +kernel) (by decide +kernel)
theorem k53 : Cond.selects RX0 yX0_note yX0_note ∈ wA := wa_ (i := 53) (by decide +kernel) (by decide +kernel)
theorem k54 : Cond.code yX0_note cX0_note 2 (some .int) ∈ wA := wa_ (i := 54) (by decide +kernel) (by decide +kernel)
theorem k55 : Cond.methodLink RX0 23 yX0_isSign ∈ wA := wa_ (i := 55) (by decide +kernel) (by decide +kernel)
theorem k56 : Cond.static yX0_isSign ∈ wA := wa_ (i := 56) (by decide +kernel) (by decide +kernel)
theorem k57 : Cond.code yX0_isSign cX0_isSign 2 (some .boolean) ∈ wA := wa_ (i := 57) (by decide +kernel) (by decide +kernel)
theorem k58 : Cond.constantLong RX0 82 65536 ∈ wA := wa_ (i := 58) (by decide +kernel) (by decide +kernel)
theorem k59 : Cond.constantLong RX0 84 55296 ∈ wA := wa_ (i := 59) (by decide +kernel) (by decide +kernel)
theorem k60 : Cond.constantLong RX0 86 57343 ∈ wA := wa_ (i := 60) (by decide +kernel) (by decide +kernel)
theorem k61 : Cond.methodLink RL 18 yX0_drop ∈ wA := wa_ (i := 61) (by decide +kernel) (by decide +kernel)
theorem k62 : Cond.instanceMethod yX0_drop ∈ wA := wa_ (i := 62) (by decide +kernel) (by decide +kernel)
theorem k63 : Cond.selects RX0 yX0_drop yX0_drop ∈ wA := wa_ (i := 63) (by decide +kernel) (by decide +kernel)
theorem k64 : Cond.code yX0_drop cX0_drop 2 (some .int) ∈ wA := wa_ (i := 64) (by decide +kernel) (by decide +kernel)
theorem k65 : Cond.methodLink RL 25 yX0_add ∈ wA := wa_ (i := 65) (by decide +kernel) (by decide +kernel)
theorem k66 : Cond.instanceMethod yX0_add ∈ wA := wa_ (i := 66) (by decide +kernel) (by decide +kernel)
theorem k67 : Cond.selects RX0 yX0_add yX0_add ∈ wA := wa_ (i := 67) (by decide +kernel) (by decide +kernel)
theorem k68 : Cond.code yX0_add cX0_add 4 (some .int) ∈ wA := wa_ (i := 68) (by decide +kernel) (by decide +kernel)
theorem k69 : Cond.methodLink RX0 27 yX0_putDigits ∈ wA := wa_ (i := 69) (by decide +kernel) (by decide +kernel)
theorem k71 : Cond.instanceMethod yX0_putDigits ∈ wA := wa_ (i := 71) (by decide +kernel) (by decide +kernel)
theorem k72 : Cond.code yX0_putDigits cX0_putDigits 9 (some .int) ∈ wA := wa_ (i := 72) (by decide +kernel) (by decide +kernel)
theorem k73 : Cond.methodLink RX0 100 yX0_countDigits ∈ wA := wa_ (i := 73) (by decide +kernel) (by decide +kernel)
theorem k74 : Cond.static yX0_countDigits ∈ wA := wa_ (i := 74) (by decide +kernel) (by decide +kernel)
theorem k75 : Cond.code yX0_countDigits cX0_countDigits 5 (some .int) ∈ wA := wa_ (i := 75) (by decide +kernel) (by decide +kernel)
theorem k76 : Cond.constantLong RX0 104 10 ∈ wA := wa_ (i := 76) (by decide +kernel) (by decide +kernel)
theorem k77 : Cond.methodLink RX0 88 yX0_hasRoom ∈ wA := wa_ (i := 77) (by decide +kernel) (by decide +kernel)
theorem k79 : Cond.instanceMethod yX0_hasRoom ∈ wA := wa_ (i := 79) (by decide +kernel) (by decide +kernel)
theorem k80 : Cond.code yX0_hasRoom cX0_hasRoom 2 (some .boolean) ∈ wA := wa_ (i := 80) (by decide +kernel) (by decide +kernel)
theorem k81 : Cond.methodLink RX0 55 yX0_makeGap ∈ wA := wa_ (i := 81) (by decide +kernel) (by decide +kernel)
theorem k83 : Cond.instanceMethod yX0_makeGap ∈ wA := wa_ (i := 83) (by decide +kernel) (by decide +kernel)
theorem k84 : Cond.code yX0_makeGap cX0_makeGap 4 none ∈ wA := wa_ (i := 84) (by decide +kernel) (by decide +kernel)
theorem k85 : Cond.methodLink RX0 69 arraycopyName ∈ wA := wa_ (i := 85) (by decide +kernel) (by decide +kernel)
theorem k86 : Cond.static arraycopyName ∈ wA := wa_ (i := 86) (by decide +kernel) (by decide +kernel)
theorem k87 : Cond.native arraycopyName ∈ wA := wa_ (i := 87) (by decide +kernel) (by decide +kernel)
theorem k88 : Cond.methodLink RX0 106 Lib.Math.abs.name ∈ wA := wa_ (i := 88) (by decide +kernel) (by decide +kernel)
theorem k89 : Cond.static Lib.Math.abs.name ∈ wA := wa_ (i := 89) (by decide +kernel) (by decide +kernel)
theorem k90 : Cond.code Lib.Math.abs.name Lib.Math.abs.code 1 (some .int) ∈ wA := wa_ (i := 90) (by decide +kernel) (by decide +kernel)
theorem k91 : Cond.stringRef RX0 31 "false" ∈ lw_tbl := List.mem_of_getElem? (i := 91) (by decide +kernel)
theorem k92 : Cond.stringRef RX0 33 "true" ∈ lw_tbl := List.mem_of_getElem? (i := 92) (by decide +kernel)
theorem k93 : Cond.methodLink RX0 35 yX0_putWord ∈ wA := wa_ (i := 93) (by decide +kernel) (by decide +kernel)
theorem k95 : Cond.instanceMethod yX0_putWord ∈ wA := wa_ (i := 95) (by decide +kernel) (by decide +kernel)
theorem k96 : Cond.code yX0_putWord cX0_putWord 5 (some .int) ∈ wA := wa_ (i := 96) (by decide +kernel) (by decide +kernel)
theorem k97 : Cond.methodLink RX0 91 yJ0_length_8abf5 ∈ wA := wa_ (i := 97) (by decide +kernel) (by decide +kernel)
theorem k98 : Cond.instanceMethod yJ0_length_8abf5 ∈ wA := wa_ (i := 98) (by decide +kernel) (by decide +kernel)
theorem k99 : Cond.selects RJ0 yJ0_length_8abf5 yJ0_length_8abf5 ∈ wA := wa_ (i := 99) (by decide +kernel) (by decide +kernel)
theorem k100 : Cond.code yJ0_length_8abf5 cJ0_length_8abf5 1 (some .int) ∈ wA := wa_ (i := 100) (by decide +kernel) (by decide +kernel)
theorem k101 : Cond.methodLink RJ0 335 yJ0_coder_7d493 ∈ wA := wa_ (i := 101) (by decide +kernel) (by decide +kernel)
theorem k102 : Cond.instanceMethod yJ0_coder_7d493 ∈ wA := wa_ (i := 102) (by decide +kernel) (by decide +kernel)
theorem k103 : Cond.selects RJ0 yJ0_coder_7d493 yJ0_coder_7d493 ∈ wA := wa_ (i := 103) (by decide +kernel) (by decide +kernel)
theorem k104 : Cond.code yJ0_coder_7d493 cJ0_coder_7d493 1 (some .byte) ∈ wA := wa_ (i := 104) (by decide +kernel) (by decide +kernel)
theorem k105 : Cond.fieldLink RJ0 38 "java/lang/String" "COMPACT_STRINGS" "Z" ∈ wA := wa_ (i := 105) (by decide +kernel) (by decide +kernel)
theorem k106 : Cond.laysStatic "java/lang/String" "COMPACT_STRINGS" "Z" ∈ lw_tbl := List.mem_of_getElem? (i := 106) (by decide +kernel)
theorem k107 : Cond.methodLink RX0 96 yJ0_charAt_5068e ∈ wA := wa_ (i := 107) (by decide +kernel) (by decide +kernel)
theorem k108 : Cond.instanceMethod yJ0_charAt_5068e ∈ wA := wa_ (i := 108) (by decide +kernel) (by decide +kernel)
theorem k109 : Cond.selects RJ0 yJ0_charAt_5068e yJ0_charAt_5068e ∈ wA := wa_ (i := 109) (by decide +kernel) (by decide +kernel)
theorem k110 : Cond.code yJ0_charAt_5068e cJ0_charAt_5068e 2 (some .char) ∈ wA := wa_ (i := 110) (by decide +kernel) (by decide +kernel)
theorem k111 : Cond.methodLink RJ0 492 yJ0_isLatin1_aae02 ∈ wA := wa_ (i := 111) (by decide +kernel) (by decide +kernel)
theorem k112 : Cond.instanceMethod yJ0_isLatin1_aae02 ∈ wA := wa_ (i := 112) (by decide +kernel) (by decide +kernel)
theorem k113 : Cond.selects RJ0 yJ0_isLatin1_aae02 yJ0_isLatin1_aae02 ∈ wA := wa_ (i := 113) (by decide +kernel) (by decide +kernel)
theorem k114 : Cond.code yJ0_isLatin1_aae02 cJ0_isLatin1_aae02 1 (some .boolean) ∈ wA := wa_ (i := 114) (by decide +kernel) (by decide +kernel)
theorem k115 : Cond.methodLink RJ0 495 yJ1_charAt_3b067 ∈ wA := wa_ (i := 115) (by decide +kernel) (by decide +kernel)
theorem k116 : Cond.static yJ1_charAt_3b067 ∈ wA := wa_ (i := 116) (by decide +kernel) (by decide +kernel)
theorem k117 : Cond.code yJ1_charAt_3b067 cJ1_charAt_3b067 2 (some .char) ∈ wA := wa_ (i := 117) (by decide +kernel) (by decide +kernel)
theorem k118 : Cond.methodLink RJ1 9 yJ0_checkIndex_df160 ∈ wA := wa_ (i := 118) (by decide +kernel) (by decide +kernel)
theorem k119 : Cond.static yJ0_checkIndex_df160 ∈ wA := wa_ (i := 119) (by decide +kernel) (by decide +kernel)
theorem k120 : Cond.code yJ0_checkIndex_df160 cJ0_checkIndex_df160 2 none ∈ wA := wa_ (i := 120) (by decide +kernel) (by decide +kernel)
theorem k121 : Cond.fieldLink RJ0 1053 "jdk/internal/util/Preconditions" "SIOOBE_FORMATTER" "Ljava/util/function/BiFunction;" ∈ wA := wa_ (i := 121) (by decide +kernel) (by decide +kernel)
theorem k122 : Cond.laysStatic "jdk/internal/util/Preconditions" "SIOOBE_FORMATTER" "Ljava/util/function/BiFunction;" ∈ lw_tbl := List.mem_of_getElem? (i := 122) (by decide +kernel)
theorem k123 : Cond.methodLink RJ0 1059 yJ3_checkIndex_8e157 ∈ wA := wa_ (i := 123) (by decide +kernel) (by decide +kernel)
theorem k124 : Cond.static yJ3_checkIndex_8e157 ∈ wA := wa_ (i := 124) (by decide +kernel) (by decide +kernel)
theorem k125 : Cond.code yJ3_checkIndex_8e157 cJ3_checkIndex_8e157 3 (some .int) ∈ wA := wa_ (i := 125) (by decide +kernel) (by decide +kernel)
theorem k126 : Cond.methodLink RJ0 498 yJ2_charAt_3b067 ∈ wA := wa_ (i := 126) (by decide +kernel) (by decide +kernel)
theorem k127 : Cond.static yJ2_charAt_3b067 ∈ wA := wa_ (i := 127) (by decide +kernel) (by decide +kernel)
theorem k128 : Cond.code yJ2_charAt_3b067 cJ2_charAt_3b067 2 (some .char) ∈ wA := wa_ (i := 128) (by decide +kernel) (by decide +kernel)
theorem k129 : Cond.methodLink RJ2 67 yJ2_checkIndex_2214a ∈ wA := wa_ (i := 129) (by decide +kernel) (by decide +kernel)
theorem k130 : Cond.static yJ2_checkIndex_2214a ∈ wA := wa_ (i := 130) (by decide +kernel) (by decide +kernel)
theorem k131 : Cond.code yJ2_checkIndex_2214a cJ2_checkIndex_2214a 2 none ∈ wA := wa_ (i := 131) (by decide +kernel) (by decide +kernel)
theorem k132 : Cond.methodLink RJ2 48 yJ2_length_9d52b ∈ wA := wa_ (i := 132) (by decide +kernel) (by decide +kernel)
theorem k133 : Cond.static yJ2_length_9d52b ∈ wA := wa_ (i := 133) (by decide +kernel) (by decide +kernel)
theorem k134 : Cond.code yJ2_length_9d52b cJ2_length_9d52b 1 (some .int) ∈ wA := wa_ (i := 134) (by decide +kernel) (by decide +kernel)
theorem k135 : Cond.methodLink RJ2 414 yJ0_checkIndex_df160 ∈ wA := wa_ (i := 135) (by decide +kernel) (by decide +kernel)
theorem k136 : Cond.methodLink RJ2 71 yJ2_getChar_3b067 ∈ wA := wa_ (i := 136) (by decide +kernel) (by decide +kernel)
theorem k137 : Cond.static yJ2_getChar_3b067 ∈ wA := wa_ (i := 137) (by decide +kernel) (by decide +kernel)
theorem k138 : Cond.code yJ2_getChar_3b067 cJ2_getChar_3b067 2 (some .char) ∈ wA := wa_ (i := 138) (by decide +kernel) (by decide +kernel)
theorem k139 : Cond.fieldLink RJ2 44 "java/lang/StringUTF16" "$assertionsDisabled" "Z" ∈ wA := wa_ (i := 139) (by decide +kernel) (by decide +kernel)
theorem k140 : Cond.laysStatic "java/lang/StringUTF16" "$assertionsDisabled" "Z" ∈ lw_tbl := List.mem_of_getElem? (i := 140) (by decide +kernel)
theorem k141 : Cond.fieldLink RJ2 59 "java/lang/StringUTF16" "HI_BYTE_SHIFT" "I" ∈ wA := wa_ (i := 141) (by decide +kernel) (by decide +kernel)
theorem k142 : Cond.laysStatic "java/lang/StringUTF16" "HI_BYTE_SHIFT" "I" ∈ lw_tbl := List.mem_of_getElem? (i := 142) (by decide +kernel)
theorem k143 : Cond.fieldLink RJ2 63 "java/lang/StringUTF16" "LO_BYTE_SHIFT" "I" ∈ wA := wa_ (i := 143) (by decide +kernel) (by decide +kernel)
theorem k144 : Cond.laysStatic "java/lang/StringUTF16" "LO_BYTE_SHIFT" "I" ∈ lw_tbl := List.mem_of_getElem? (i := 144) (by decide +kernel)
theorem k145 : Cond.methodLink RX0 39 yX0_putScrap ∈ wA := wa_ (i := 145) (by decide +kernel) (by decide +kernel)
theorem k147 : Cond.instanceMethod yX0_putScrap ∈ wA := wa_ (i := 147) (by decide +kernel) (by decide +kernel)
theorem k148 : Cond.code yX0_putScrap cX0_putScrap 3 (some .int) ∈ wA := wa_ (i := 148) (by decide +kernel) (by decide +kernel)
theorem k149 : Cond.methodLink RX0 43 yX0_putSign ∈ wA := wa_ (i := 149) (by decide +kernel) (by decide +kernel)
theorem k151 : Cond.instanceMethod yX0_putSign ∈ wA := wa_ (i := 151) (by decide +kernel) (by decide +kernel)
theorem k152 : Cond.code yX0_putSign cX0_putSign 3 (some .int) ∈ wA := wa_ (i := 152) (by decide +kernel) (by decide +kernel)
theorem k153 : Cond.arrayClass .byte ∈ wA := wa_ (i := 153) (by decide +kernel) (by decide +kernel)
theorem k154 : Cond.methodLink RL 30 yX0_insert ∈ wA := wa_ (i := 154) (by decide +kernel) (by decide +kernel)
theorem k155 : Cond.instanceMethod yX0_insert ∈ wA := wa_ (i := 155) (by decide +kernel) (by decide +kernel)
theorem k156 : Cond.selects RX0 yX0_insert yX0_insert ∈ wA := wa_ (i := 156) (by decide +kernel) (by decide +kernel)
theorem k157 : Cond.code yX0_insert cX0_insert 5 (some .int) ∈ wA := wa_ (i := 157) (by decide +kernel) (by decide +kernel)
theorem k158 : Cond.methodLink RX0 46 yX0_isPlaceOrEnd ∈ wA := wa_ (i := 158) (by decide +kernel) (by decide +kernel)
theorem k160 : Cond.instanceMethod yX0_isPlaceOrEnd ∈ wA := wa_ (i := 160) (by decide +kernel) (by decide +kernel)
theorem k161 : Cond.code yX0_isPlaceOrEnd cX0_isPlaceOrEnd 2 (some .boolean) ∈ wA := wa_ (i := 161) (by decide +kernel) (by decide +kernel)
theorem k162 : Cond.methodLink RL 35 yX0_cut ∈ wA := wa_ (i := 162) (by decide +kernel) (by decide +kernel)
theorem k163 : Cond.instanceMethod yX0_cut ∈ wA := wa_ (i := 163) (by decide +kernel) (by decide +kernel)
theorem k164 : Cond.selects RX0 yX0_cut yX0_cut ∈ wA := wa_ (i := 164) (by decide +kernel) (by decide +kernel)
theorem k165 : Cond.code yX0_cut cX0_cut 3 (some .int) ∈ wA := wa_ (i := 165) (by decide +kernel) (by decide +kernel)
theorem k166 : Cond.methodLink RX0 50 Lib.Math.min.name ∈ wA := wa_ (i := 166) (by decide +kernel) (by decide +kernel)
theorem k167 : Cond.static Lib.Math.min.name ∈ wA := wa_ (i := 167) (by decide +kernel) (by decide +kernel)
theorem k168 : Cond.code Lib.Math.min.name Lib.Math.min.code 2 (some .int) ∈ wA := wa_ (i := 168) (by decide +kernel) (by decide +kernel)
theorem k169 : Cond.methodLink RL 40 yX0_swap ∈ wA := wa_ (i := 169) (by decide +kernel) (by decide +kernel)
theorem k170 : Cond.instanceMethod yX0_swap ∈ wA := wa_ (i := 170) (by decide +kernel) (by decide +kernel)
theorem k171 : Cond.selects RX0 yX0_swap yX0_swap ∈ wA := wa_ (i := 171) (by decide +kernel) (by decide +kernel)
theorem k172 : Cond.code yX0_swap cX0_swap 3 (some .int) ∈ wA := wa_ (i := 172) (by decide +kernel) (by decide +kernel)
theorem k173 : Cond.methodLink RL 44 yX0_take ∈ wA := wa_ (i := 173) (by decide +kernel) (by decide +kernel)
theorem k174 : Cond.instanceMethod yX0_take ∈ wA := wa_ (i := 174) (by decide +kernel) (by decide +kernel)
theorem k175 : Cond.selects RX0 yX0_take yX0_take ∈ wA := wa_ (i := 175) (by decide +kernel) (by decide +kernel)
theorem k176 : Cond.code yX0_take cX0_take 3 (some .int) ∈ wA := wa_ (i := 176) (by decide +kernel) (by decide +kernel)
theorem k177 : Cond.methodLink RX0 59 yX0_isPlace ∈ wA := wa_ (i := 177) (by decide +kernel) (by decide +kernel)
theorem k179 : Cond.instanceMethod yX0_isPlace ∈ wA := wa_ (i := 179) (by decide +kernel) (by decide +kernel)
theorem k180 : Cond.code yX0_isPlace cX0_isPlace 2 (some .boolean) ∈ wA := wa_ (i := 180) (by decide +kernel) (by decide +kernel)
theorem k181 : Cond.methodLink RL 48 yX0_set ∈ wA := wa_ (i := 181) (by decide +kernel) (by decide +kernel)
theorem k182 : Cond.instanceMethod yX0_set ∈ wA := wa_ (i := 182) (by decide +kernel) (by decide +kernel)
theorem k183 : Cond.selects RX0 yX0_set yX0_set ∈ wA := wa_ (i := 183) (by decide +kernel) (by decide +kernel)
theorem k184 : Cond.code yX0_set cX0_set 4 (some .int) ∈ wA := wa_ (i := 184) (by decide +kernel) (by decide +kernel)
theorem k185 : Cond.methodLink RL 52 yX0_get ∈ wA := wa_ (i := 185) (by decide +kernel) (by decide +kernel)
theorem k186 : Cond.instanceMethod yX0_get ∈ wA := wa_ (i := 186) (by decide +kernel) (by decide +kernel)
theorem k187 : Cond.selects RX0 yX0_get yX0_get ∈ wA := wa_ (i := 187) (by decide +kernel) (by decide +kernel)
theorem k188 : Cond.code yX0_get cX0_get 2 (some .int) ∈ wA := wa_ (i := 188) (by decide +kernel) (by decide +kernel)
theorem k189 : Cond.methodLink RL 56 yX0_turn ∈ wA := wa_ (i := 189) (by decide +kernel) (by decide +kernel)
theorem k190 : Cond.instanceMethod yX0_turn ∈ wA := wa_ (i := 190) (by decide +kernel) (by decide +kernel)
theorem k191 : Cond.selects RX0 yX0_turn yX0_turn ∈ wA := wa_ (i := 191) (by decide +kernel) (by decide +kernel)
theorem k192 : Cond.code yX0_turn cX0_turn 4 (some .int) ∈ wA := wa_ (i := 192) (by decide +kernel) (by decide +kernel)
theorem k193 : Cond.methodLink RL 60 yX0_find ∈ wA := wa_ (i := 193) (by decide +kernel) (by decide +kernel)
theorem k194 : Cond.instanceMethod yX0_find ∈ wA := wa_ (i := 194) (by decide +kernel) (by decide +kernel)
theorem k195 : Cond.selects RX0 yX0_find yX0_find ∈ wA := wa_ (i := 195) (by decide +kernel) (by decide +kernel)
theorem k196 : Cond.code yX0_find cX0_find 3 (some .int) ∈ wA := wa_ (i := 196) (by decide +kernel) (by decide +kernel)
theorem k197 : Cond.methodLink RX0 62 yX0_findBackward ∈ wA := wa_ (i := 197) (by decide +kernel) (by decide +kernel)
theorem k199 : Cond.instanceMethod yX0_findBackward ∈ wA := wa_ (i := 199) (by decide +kernel) (by decide +kernel)
theorem k200 : Cond.code yX0_findBackward cX0_findBackward 4 (some .int) ∈ wA := wa_ (i := 200) (by decide +kernel) (by decide +kernel)
theorem k201 : Cond.methodLink RX0 112 yX0_scrapStandsAt ∈ wA := wa_ (i := 201) (by decide +kernel) (by decide +kernel)
theorem k203 : Cond.instanceMethod yX0_scrapStandsAt ∈ wA := wa_ (i := 203) (by decide +kernel) (by decide +kernel)
theorem k204 : Cond.code yX0_scrapStandsAt cX0_scrapStandsAt 3 (some .boolean) ∈ wA := wa_ (i := 204) (by decide +kernel) (by decide +kernel)
theorem k205 : Cond.methodLink RX0 66 yX0_findForward ∈ wA := wa_ (i := 205) (by decide +kernel) (by decide +kernel)
theorem k207 : Cond.instanceMethod yX0_findForward ∈ wA := wa_ (i := 207) (by decide +kernel) (by decide +kernel)
theorem k208 : Cond.code yX0_findForward cX0_findForward 5 (some .int) ∈ wA := wa_ (i := 208) (by decide +kernel) (by decide +kernel)
theorem k209 : Cond.methodLink RX0 109 Lib.Math.max.name ∈ wA := wa_ (i := 209) (by decide +kernel) (by decide +kernel)
theorem k210 : Cond.static Lib.Math.max.name ∈ wA := wa_ (i := 210) (by decide +kernel) (by decide +kernel)
theorem k211 : Cond.code Lib.Math.max.name Lib.Math.max.code 2 (some .int) ∈ wA := wa_ (i := 211) (by decide +kernel) (by decide +kernel)
theorem k212 : Cond.methodLink RL 65 yX0_length ∈ wA := wa_ (i := 212) (by decide +kernel) (by decide +kernel)
theorem k213 : Cond.instanceMethod yX0_length ∈ wA := wa_ (i := 213) (by decide +kernel) (by decide +kernel)
theorem k214 : Cond.selects RX0 yX0_length yX0_length ∈ wA := wa_ (i := 214) (by decide +kernel) (by decide +kernel)
theorem k215 : Cond.code yX0_length cX0_length 3 (some .int) ∈ wA := wa_ (i := 215) (by decide +kernel) (by decide +kernel)
theorem k216 : Cond.methodLink RL 69 yX0_lift ∈ wA := wa_ (i := 216) (by decide +kernel) (by decide +kernel)
theorem k217 : Cond.instanceMethod yX0_lift ∈ wA := wa_ (i := 217) (by decide +kernel) (by decide +kernel)
theorem k218 : Cond.selects RX0 yX0_lift yX0_lift ∈ wA := wa_ (i := 218) (by decide +kernel) (by decide +kernel)
theorem k219 : Cond.code yX0_lift cX0_lift 4 (some .int) ∈ wA := wa_ (i := 219) (by decide +kernel) (by decide +kernel)
theorem k220 : Cond.methodLink RL 73 yX0_look ∈ wA := wa_ (i := 220) (by decide +kernel) (by decide +kernel)
theorem k221 : Cond.instanceMethod yX0_look ∈ wA := wa_ (i := 221) (by decide +kernel) (by decide +kernel)
theorem k222 : Cond.selects RX0 yX0_look yX0_look ∈ wA := wa_ (i := 222) (by decide +kernel) (by decide +kernel)
theorem k223 : Cond.code yX0_look cX0_look 2 (some .int) ∈ wA := wa_ (i := 223) (by decide +kernel) (by decide +kernel)
theorem k224 : Cond.methodLink RX0 75 yX0_sumOfText ∈ wA := wa_ (i := 224) (by decide +kernel) (by decide +kernel)
theorem k226 : Cond.instanceMethod yX0_sumOfText ∈ wA := wa_ (i := 226) (by decide +kernel) (by decide +kernel)
theorem k227 : Cond.code yX0_sumOfText cX0_sumOfText 3 (some .int) ∈ wA := wa_ (i := 227) (by decide +kernel) (by decide +kernel)
theorem k228 : Cond.methodLink RL 77 yX0_scrap ∈ wA := wa_ (i := 228) (by decide +kernel) (by decide +kernel)
theorem k229 : Cond.instanceMethod yX0_scrap ∈ wA := wa_ (i := 229) (by decide +kernel) (by decide +kernel)
theorem k230 : Cond.selects RX0 yX0_scrap yX0_scrap ∈ wA := wa_ (i := 230) (by decide +kernel) (by decide +kernel)
theorem k231 : Cond.code yX0_scrap cX0_scrap 2 (some .int) ∈ wA := wa_ (i := 231) (by decide +kernel) (by decide +kernel)
theorem k232 : Cond.methodLink RL 81 yX0_compare ∈ wA := wa_ (i := 232) (by decide +kernel) (by decide +kernel)
theorem k233 : Cond.instanceMethod yX0_compare ∈ wA := wa_ (i := 233) (by decide +kernel) (by decide +kernel)
theorem k234 : Cond.selects RX0 yX0_compare yX0_compare ∈ wA := wa_ (i := 234) (by decide +kernel) (by decide +kernel)
theorem k235 : Cond.code yX0_compare cX0_compare 3 (some .int) ∈ wA := wa_ (i := 235) (by decide +kernel) (by decide +kernel)
theorem k236 : Cond.methodLink RX0 79 yX0_order ∈ wA := wa_ (i := 236) (by decide +kernel) (by decide +kernel)
theorem k237 : Cond.static yX0_order ∈ wA := wa_ (i := 237) (by decide +kernel) (by decide +kernel)
theorem k238 : Cond.code yX0_order cX0_order 2 (some .int) ∈ wA := wa_ (i := 238) (by decide +kernel) (by decide +kernel)
theorem k239 : Cond.classLink RL 10 RX1 ∈ wA := wa_ (i := 239) (by decide +kernel) (by decide +kernel)
theorem k240 : Cond.instantiable RX1 6 ∈ wA := wa_ (i := 240) (by decide +kernel) (by decide +kernel)
theorem k241 : Cond.methodLink RL 12 yX1_init ∈ wA := wa_ (i := 241) (by decide +kernel) (by decide +kernel)
theorem k242 : Cond.instanceMethod yX1_init ∈ wA := wa_ (i := 242) (by decide +kernel) (by decide +kernel)
theorem k243 : Cond.code yX1_init cX1_init 1 none ∈ wA := wa_ (i := 243) (by decide +kernel) (by decide +kernel)
theorem k244 : Cond.methodLink RX1 1 objectInit ∈ wA := wa_ (i := 244) (by decide +kernel) (by decide +kernel)
theorem k245 : Cond.fieldLink RX1 9 "TextLoomModel" "text" "[I" ∈ wA := wa_ (i := 245) (by decide +kernel) (by decide +kernel)
theorem k246 : Cond.fieldLink RX1 13 "TextLoomModel" "scrap" "[I" ∈ wA := wa_ (i := 246) (by decide +kernel) (by decide +kernel)
theorem k247 : Cond.fieldLink RX1 16 "TextLoomModel" "digits" "[I" ∈ wA := wa_ (i := 247) (by decide +kernel) (by decide +kernel)
theorem k248 : Cond.fieldLink RX1 31 "TextLoomModel" "many" "I" ∈ wA := wa_ (i := 248) (by decide +kernel) (by decide +kernel)
theorem k249 : Cond.fieldLink RX1 38 "TextLoomModel" "notes" "I" ∈ wA := wa_ (i := 249) (by decide +kernel) (by decide +kernel)
theorem k250 : Cond.fieldLink RX1 25 "TextLoomModel" "digitMany" "I" ∈ wA := wa_ (i := 250) (by decide +kernel) (by decide +kernel)
theorem k264 : Cond.methodLink RL 17 yX1_note ∈ wA := wa_ (i := 264) (by decide +kernel) (by decide +kernel)
theorem k265 : Cond.instanceMethod yX1_note ∈ wA := wa_ (i := 265) (by decide +kernel) (by decide +kernel)
theorem k266 : Cond.selects RX1 yX1_note yX1_note ∈ wA := wa_ (i := 266) (by decide +kernel) (by decide +kernel)
theorem k267 : Cond.code yX1_note cX1_note 2 (some .int) ∈ wA := wa_ (i := 267) (by decide +kernel) (by decide +kernel)
theorem k268 : Cond.methodLink RX1 34 yX1_isSign ∈ wA := wa_ (i := 268) (by decide +kernel) (by decide +kernel)
theorem k269 : Cond.static yX1_isSign ∈ wA := wa_ (i := 269) (by decide +kernel) (by decide +kernel)
theorem k270 : Cond.code yX1_isSign cX1_isSign 2 (some .boolean) ∈ wA := wa_ (i := 270) (by decide +kernel) (by decide +kernel)
theorem k271 : Cond.constantLong RX1 19 65535 ∈ wA := wa_ (i := 271) (by decide +kernel) (by decide +kernel)
theorem k272 : Cond.constantLong RX1 21 55296 ∈ wA := wa_ (i := 272) (by decide +kernel) (by decide +kernel)
theorem k273 : Cond.constantLong RX1 23 57343 ∈ wA := wa_ (i := 273) (by decide +kernel) (by decide +kernel)
theorem k274 : Cond.methodLink RL 22 yX1_drop ∈ wA := wa_ (i := 274) (by decide +kernel) (by decide +kernel)
theorem k275 : Cond.instanceMethod yX1_drop ∈ wA := wa_ (i := 275) (by decide +kernel) (by decide +kernel)
theorem k276 : Cond.selects RX1 yX1_drop yX1_drop ∈ wA := wa_ (i := 276) (by decide +kernel) (by decide +kernel)
theorem k277 : Cond.code yX1_drop cX1_drop 2 (some .int) ∈ wA := wa_ (i := 277) (by decide +kernel) (by decide +kernel)
theorem k278 : Cond.methodLink RL 80 yX1_scrap ∈ wA := wa_ (i := 278) (by decide +kernel) (by decide +kernel)
theorem k279 : Cond.instanceMethod yX1_scrap ∈ wA := wa_ (i := 279) (by decide +kernel) (by decide +kernel)
theorem k280 : Cond.selects RX1 yX1_scrap yX1_scrap ∈ wA := wa_ (i := 280) (by decide +kernel) (by decide +kernel)
theorem k281 : Cond.code yX1_scrap cX1_scrap 2 (some .int) ∈ wA := wa_ (i := 281) (by decide +kernel) (by decide +kernel)
theorem k282 : Cond.methodLink RL 72 yX1_lift ∈ wA := wa_ (i := 282) (by decide +kernel) (by decide +kernel)
theorem k283 : Cond.instanceMethod yX1_lift ∈ wA := wa_ (i := 283) (by decide +kernel) (by decide +kernel)
theorem k284 : Cond.selects RX1 yX1_lift yX1_lift ∈ wA := wa_ (i := 284) (by decide +kernel) (by decide +kernel)
theorem k285 : Cond.code yX1_lift cX1_lift 4 (some .int) ∈ wA := wa_ (i := 285) (by decide +kernel) (by decide +kernel)
theorem k286 : Cond.methodLink RL 29 yX1_add ∈ wA := wa_ (i := 286) (by decide +kernel) (by decide +kernel)
theorem k287 : Cond.instanceMethod yX1_add ∈ wA := wa_ (i := 287) (by decide +kernel) (by decide +kernel)
theorem k288 : Cond.selects RX1 yX1_add yX1_add ∈ wA := wa_ (i := 288) (by decide +kernel) (by decide +kernel)
theorem k289 : Cond.code yX1_add cX1_add 4 (some .int) ∈ wA := wa_ (i := 289) (by decide +kernel) (by decide +kernel)
theorem k290 : Cond.methodLink RX1 55 yX1_digits ∈ wA := wa_ (i := 290) (by decide +kernel) (by decide +kernel)
theorem k292 : Cond.instanceMethod yX1_digits ∈ wA := wa_ (i := 292) (by decide +kernel) (by decide +kernel)
theorem k293 : Cond.code yX1_digits cX1_digits 6 none ∈ wA := wa_ (i := 293) (by decide +kernel) (by decide +kernel)
theorem k294 : Cond.constantLong RX1 29 10 ∈ wA := wa_ (i := 294) (by decide +kernel) (by decide +kernel)
theorem k295 : Cond.methodLink RX1 58 yX1_putDigits ∈ wA := wa_ (i := 295) (by decide +kernel) (by decide +kernel)
theorem k297 : Cond.instanceMethod yX1_putDigits ∈ wA := wa_ (i := 297) (by decide +kernel) (by decide +kernel)
theorem k298 : Cond.code yX1_putDigits cX1_putDigits 3 (some .int) ∈ wA := wa_ (i := 298) (by decide +kernel) (by decide +kernel)
theorem k299 : Cond.methodLink RX1 41 yX1_full ∈ wA := wa_ (i := 299) (by decide +kernel) (by decide +kernel)
theorem k301 : Cond.instanceMethod yX1_full ∈ wA := wa_ (i := 301) (by decide +kernel) (by decide +kernel)
theorem k302 : Cond.code yX1_full cX1_full 2 (some .boolean) ∈ wA := wa_ (i := 302) (by decide +kernel) (by decide +kernel)
theorem k303 : Cond.methodLink RX1 45 yX1_open ∈ wA := wa_ (i := 303) (by decide +kernel) (by decide +kernel)
theorem k305 : Cond.instanceMethod yX1_open ∈ wA := wa_ (i := 305) (by decide +kernel) (by decide +kernel)
theorem k306 : Cond.code yX1_open cX1_open 4 none ∈ wA := wa_ (i := 306) (by decide +kernel) (by decide +kernel)
theorem k307 : Cond.methodLink RX1 62 yX1_letters ∈ wA := wa_ (i := 307) (by decide +kernel) (by decide +kernel)
theorem k309 : Cond.instanceMethod yX1_letters ∈ wA := wa_ (i := 309) (by decide +kernel) (by decide +kernel)
theorem k310 : Cond.code yX1_letters cX1_letters 6 (some .int) ∈ wA := wa_ (i := 310) (by decide +kernel) (by decide +kernel)
theorem k311 : Cond.fieldLink RX1 49 "TextLoomModel" "YES" "[I" ∈ wA := wa_ (i := 311) (by decide +kernel) (by decide +kernel)
theorem k312 : Cond.laysStatic "TextLoomModel" "YES" "[I" ∈ lw_tbl := List.mem_of_getElem? (i := 312) (by decide +kernel)
theorem k313 : Cond.fieldLink RX1 52 "TextLoomModel" "NO" "[I" ∈ wA := wa_ (i := 313) (by decide +kernel) (by decide +kernel)
theorem k314 : Cond.laysStatic "TextLoomModel" "NO" "[I" ∈ lw_tbl := List.mem_of_getElem? (i := 314) (by decide +kernel)
theorem k315 : Cond.methodLink RX1 66 yX1_putScrap ∈ wA := wa_ (i := 315) (by decide +kernel) (by decide +kernel)
theorem k317 : Cond.instanceMethod yX1_putScrap ∈ wA := wa_ (i := 317) (by decide +kernel) (by decide +kernel)
theorem k318 : Cond.code yX1_putScrap cX1_putScrap 3 (some .int) ∈ wA := wa_ (i := 318) (by decide +kernel) (by decide +kernel)
theorem k319 : Cond.methodLink RL 34 yX1_insert ∈ wA := wa_ (i := 319) (by decide +kernel) (by decide +kernel)
theorem k320 : Cond.instanceMethod yX1_insert ∈ wA := wa_ (i := 320) (by decide +kernel) (by decide +kernel)
theorem k321 : Cond.selects RX1 yX1_insert yX1_insert ∈ wA := wa_ (i := 321) (by decide +kernel) (by decide +kernel)
theorem k322 : Cond.code yX1_insert cX1_insert 5 (some .int) ∈ wA := wa_ (i := 322) (by decide +kernel) (by decide +kernel)
theorem k323 : Cond.methodLink RL 39 yX1_cut ∈ wA := wa_ (i := 323) (by decide +kernel) (by decide +kernel)
theorem k324 : Cond.instanceMethod yX1_cut ∈ wA := wa_ (i := 324) (by decide +kernel) (by decide +kernel)
theorem k325 : Cond.selects RX1 yX1_cut yX1_cut ∈ wA := wa_ (i := 325) (by decide +kernel) (by decide +kernel)
theorem k326 : Cond.code yX1_cut cX1_cut 3 (some .int) ∈ wA := wa_ (i := 326) (by decide +kernel) (by decide +kernel)
theorem k327 : Cond.methodLink RX1 69 yX1_close ∈ wA := wa_ (i := 327) (by decide +kernel) (by decide +kernel)
theorem k329 : Cond.instanceMethod yX1_close ∈ wA := wa_ (i := 329) (by decide +kernel) (by decide +kernel)
theorem k330 : Cond.code yX1_close cX1_close 5 none ∈ wA := wa_ (i := 330) (by decide +kernel) (by decide +kernel)
theorem k331 : Cond.methodLink RL 43 yX1_swap ∈ wA := wa_ (i := 331) (by decide +kernel) (by decide +kernel)
theorem k332 : Cond.instanceMethod yX1_swap ∈ wA := wa_ (i := 332) (by decide +kernel) (by decide +kernel)
theorem k333 : Cond.selects RX1 yX1_swap yX1_swap ∈ wA := wa_ (i := 333) (by decide +kernel) (by decide +kernel)
theorem k334 : Cond.code yX1_swap cX1_swap 4 (some .int) ∈ wA := wa_ (i := 334) (by decide +kernel) (by decide +kernel)
theorem k335 : Cond.methodLink RL 47 yX1_take ∈ wA := wa_ (i := 335) (by decide +kernel) (by decide +kernel)
theorem k336 : Cond.instanceMethod yX1_take ∈ wA := wa_ (i := 336) (by decide +kernel) (by decide +kernel)
theorem k337 : Cond.selects RX1 yX1_take yX1_take ∈ wA := wa_ (i := 337) (by decide +kernel) (by decide +kernel)
theorem k338 : Cond.code yX1_take cX1_take 3 (some .int) ∈ wA := wa_ (i := 338) (by decide +kernel) (by decide +kernel)
theorem k339 : Cond.methodLink RL 51 yX1_set ∈ wA := wa_ (i := 339) (by decide +kernel) (by decide +kernel)
theorem k340 : Cond.instanceMethod yX1_set ∈ wA := wa_ (i := 340) (by decide +kernel) (by decide +kernel)
theorem k341 : Cond.selects RX1 yX1_set yX1_set ∈ wA := wa_ (i := 341) (by decide +kernel) (by decide +kernel)
theorem k342 : Cond.code yX1_set cX1_set 4 (some .int) ∈ wA := wa_ (i := 342) (by decide +kernel) (by decide +kernel)
theorem k343 : Cond.methodLink RL 55 yX1_get ∈ wA := wa_ (i := 343) (by decide +kernel) (by decide +kernel)
theorem k344 : Cond.instanceMethod yX1_get ∈ wA := wa_ (i := 344) (by decide +kernel) (by decide +kernel)
theorem k345 : Cond.selects RX1 yX1_get yX1_get ∈ wA := wa_ (i := 345) (by decide +kernel) (by decide +kernel)
theorem k346 : Cond.code yX1_get cX1_get 2 (some .int) ∈ wA := wa_ (i := 346) (by decide +kernel) (by decide +kernel)
theorem k347 : Cond.methodLink RL 59 yX1_turn ∈ wA := wa_ (i := 347) (by decide +kernel) (by decide +kernel)
theorem k348 : Cond.instanceMethod yX1_turn ∈ wA := wa_ (i := 348) (by decide +kernel) (by decide +kernel)
theorem k349 : Cond.selects RX1 yX1_turn yX1_turn ∈ wA := wa_ (i := 349) (by decide +kernel) (by decide +kernel)
theorem k350 : Cond.code yX1_turn cX1_turn 3 (some .int) ∈ wA := wa_ (i := 350) (by decide +kernel) (by decide +kernel)
theorem k351 : Cond.methodLink RL 68 yX1_length ∈ wA := wa_ (i := 351) (by decide +kernel) (by decide +kernel)
theorem k352 : Cond.instanceMethod yX1_length ∈ wA := wa_ (i := 352) (by decide +kernel) (by decide +kernel)
theorem k353 : Cond.selects RX1 yX1_length yX1_length ∈ wA := wa_ (i := 353) (by decide +kernel) (by decide +kernel)
theorem k354 : Cond.code yX1_length cX1_length 3 (some .int) ∈ wA := wa_ (i := 354) (by decide +kernel) (by decide +kernel)
theorem k355 : Cond.methodLink RL 64 yX1_find ∈ wA := wa_ (i := 355) (by decide +kernel) (by decide +kernel)
theorem k356 : Cond.instanceMethod yX1_find ∈ wA := wa_ (i := 356) (by decide +kernel) (by decide +kernel)
theorem k357 : Cond.selects RX1 yX1_find yX1_find ∈ wA := wa_ (i := 357) (by decide +kernel) (by decide +kernel)
theorem k358 : Cond.code yX1_find cX1_find 4 (some .int) ∈ wA := wa_ (i := 358) (by decide +kernel) (by decide +kernel)
theorem k359 : Cond.methodLink RX1 72 yX1_stands ∈ wA := wa_ (i := 359) (by decide +kernel) (by decide +kernel)
theorem k361 : Cond.instanceMethod yX1_stands ∈ wA := wa_ (i := 361) (by decide +kernel) (by decide +kernel)
theorem k362 : Cond.code yX1_stands cX1_stands 3 (some .boolean) ∈ wA := wa_ (i := 362) (by decide +kernel) (by decide +kernel)
theorem k363 : Cond.methodLink RL 76 yX1_look ∈ wA := wa_ (i := 363) (by decide +kernel) (by decide +kernel)
theorem k364 : Cond.instanceMethod yX1_look ∈ wA := wa_ (i := 364) (by decide +kernel) (by decide +kernel)
theorem k365 : Cond.selects RX1 yX1_look yX1_look ∈ wA := wa_ (i := 365) (by decide +kernel) (by decide +kernel)
theorem k366 : Cond.code yX1_look cX1_look 4 (some .int) ∈ wA := wa_ (i := 366) (by decide +kernel) (by decide +kernel)
theorem k367 : Cond.methodLink RL 84 yX1_compare ∈ wA := wa_ (i := 367) (by decide +kernel) (by decide +kernel)
theorem k368 : Cond.instanceMethod yX1_compare ∈ wA := wa_ (i := 368) (by decide +kernel) (by decide +kernel)
theorem k369 : Cond.selects RX1 yX1_compare yX1_compare ∈ wA := wa_ (i := 369) (by decide +kernel) (by decide +kernel)
theorem k370 : Cond.code yX1_compare cX1_compare 2 (some .int) ∈ wA := wa_ (i := 370) (by decide +kernel) (by decide +kernel)
theorem k371 : Cond.constantLong RL 23 4294967295 ∈ wA := wa_ (i := 371) (by decide +kernel) (by decide +kernel)
theorem k372 : Cond.fieldLink RJ0 9 "java/lang/String" "value" "[B" ∈ wA := wa_ (i := 372) (by decide +kernel) (by decide +kernel)
theorem k373 : Cond.fieldLink RJ0 15 "java/lang/String" "coder" "B" ∈ wA := wa_ (i := 373) (by decide +kernel) (by decide +kernel)
theorem inX0 : ∀ w ∈ u_ws RX0 TX0 4, w ∈ wA := by decide +kernel
theorem inX1 : ∀ w ∈ u_ws RX1 TX1 6, w ∈ wA := by decide +kernel
def wsX0_init : List Cond := .code yX0_init cX0_init 1 none :: wA
def wsX0_note : List Cond := .code yX0_note cX0_note 2 (some .int) :: wA
def wsX0_isSign : List Cond := .code yX0_isSign cX0_isSign 2 (some .boolean) :: wA
def wsX0_drop : List Cond := .code yX0_drop cX0_drop 2 (some .int) :: wA
def wsX0_add : List Cond := .code yX0_add cX0_add 4 (some .int) :: wA
def wsX0_putDigits : List Cond := .code yX0_putDigits cX0_putDigits 9 (some .int) :: wA
def wsX0_countDigits : List Cond := .code yX0_countDigits cX0_countDigits 5 (some .int) :: wA
def wsX0_hasRoom : List Cond := .code yX0_hasRoom cX0_hasRoom 2 (some .boolean) :: wA
def wsX0_makeGap : List Cond := .code yX0_makeGap cX0_makeGap 4 none :: wA
def wsX0_putWord : List Cond := .code yX0_putWord cX0_putWord 5 (some .int) :: wA
def wsJ0_length_8abf5 : List Cond := .code yJ0_length_8abf5 cJ0_length_8abf5 1 (some .int) :: wA
def wsJ0_coder_7d493 : List Cond := .code yJ0_coder_7d493 cJ0_coder_7d493 1 (some .byte) :: wA
def wsJ0_charAt_5068e : List Cond := .code yJ0_charAt_5068e cJ0_charAt_5068e 2 (some .char) :: wA
def wsJ0_isLatin1_aae02 : List Cond := .code yJ0_isLatin1_aae02 cJ0_isLatin1_aae02 1 (some .boolean) :: wA
def wsJ1_charAt_3b067 : List Cond := .code yJ1_charAt_3b067 cJ1_charAt_3b067 2 (some .char) :: wA
def wsJ0_checkIndex_df160 : List Cond := .code yJ0_checkIndex_df160 cJ0_checkIndex_df160 2 none :: wA
def wsJ3_checkIndex_8e157 : List Cond := .code yJ3_checkIndex_8e157 cJ3_checkIndex_8e157 3 (some .int) :: wA
def wsJ2_charAt_3b067 : List Cond := .code yJ2_charAt_3b067 cJ2_charAt_3b067 2 (some .char) :: wA
def wsJ2_checkIndex_2214a : List Cond := .code yJ2_checkIndex_2214a cJ2_checkIndex_2214a 2 none :: wA
def wsJ2_length_9d52b : List Cond := .code yJ2_length_9d52b cJ2_length_9d52b 1 (some .int) :: wA
def wsJ2_getChar_3b067 : List Cond := .code yJ2_getChar_3b067 cJ2_getChar_3b067 2 (some .char) :: wA
def wsX0_putScrap : List Cond := .code yX0_putScrap cX0_putScrap 3 (some .int) :: wA
def wsX0_putSign : List Cond := .code yX0_putSign cX0_putSign 3 (some .int) :: wA
def wsX0_insert : List Cond := .code yX0_insert cX0_insert 5 (some .int) :: wA
def wsX0_isPlaceOrEnd : List Cond := .code yX0_isPlaceOrEnd cX0_isPlaceOrEnd 2 (some .boolean) :: wA
def wsX0_cut : List Cond := .code yX0_cut cX0_cut 3 (some .int) :: wA
def wsX0_swap : List Cond := .code yX0_swap cX0_swap 3 (some .int) :: wA
def wsX0_take : List Cond := .code yX0_take cX0_take 3 (some .int) :: wA
def wsX0_isPlace : List Cond := .code yX0_isPlace cX0_isPlace 2 (some .boolean) :: wA
def wsX0_set : List Cond := .code yX0_set cX0_set 4 (some .int) :: wA
def wsX0_get : List Cond := .code yX0_get cX0_get 2 (some .int) :: wA
def wsX0_turn : List Cond := .code yX0_turn cX0_turn 4 (some .int) :: wA
def wsX0_find : List Cond := .code yX0_find cX0_find 3 (some .int) :: wA
def wsX0_findBackward : List Cond := .code yX0_findBackward cX0_findBackward 4 (some .int) :: wA
def wsX0_scrapStandsAt : List Cond := .code yX0_scrapStandsAt cX0_scrapStandsAt 3 (some .boolean) :: wA
def wsX0_findForward : List Cond := .code yX0_findForward cX0_findForward 5 (some .int) :: wA
def wsX0_length : List Cond := .code yX0_length cX0_length 3 (some .int) :: wA
def wsX0_lift : List Cond := .code yX0_lift cX0_lift 4 (some .int) :: wA
def wsX0_look : List Cond := .code yX0_look cX0_look 2 (some .int) :: wA
def wsX0_sumOfText : List Cond := .code yX0_sumOfText cX0_sumOfText 3 (some .int) :: wA
def wsX0_scrap : List Cond := .code yX0_scrap cX0_scrap 2 (some .int) :: wA
def wsX0_compare : List Cond := .code yX0_compare cX0_compare 3 (some .int) :: wA
def wsX0_order : List Cond := .code yX0_order cX0_order 2 (some .int) :: wA
def wsX1_init : List Cond := .code yX1_init cX1_init 1 none :: wA
def wsX1_note : List Cond := .code yX1_note cX1_note 2 (some .int) :: wA
def wsX1_isSign : List Cond := .code yX1_isSign cX1_isSign 2 (some .boolean) :: wA
def wsX1_drop : List Cond := .code yX1_drop cX1_drop 2 (some .int) :: wA
def wsX1_scrap : List Cond := .code yX1_scrap cX1_scrap 2 (some .int) :: wA
def wsX1_lift : List Cond := .code yX1_lift cX1_lift 4 (some .int) :: wA
def wsX1_add : List Cond := .code yX1_add cX1_add 4 (some .int) :: wA
def wsX1_digits : List Cond := .code yX1_digits cX1_digits 6 none :: wA
def wsX1_putDigits : List Cond := .code yX1_putDigits cX1_putDigits 3 (some .int) :: wA
def wsX1_full : List Cond := .code yX1_full cX1_full 2 (some .boolean) :: wA
def wsX1_open : List Cond := .code yX1_open cX1_open 4 none :: wA
def wsX1_letters : List Cond := .code yX1_letters cX1_letters 6 (some .int) :: wA
def wsX1_putScrap : List Cond := .code yX1_putScrap cX1_putScrap 3 (some .int) :: wA
def wsX1_insert : List Cond := .code yX1_insert cX1_insert 5 (some .int) :: wA
def wsX1_cut : List Cond := .code yX1_cut cX1_cut 3 (some .int) :: wA
def wsX1_close : List Cond := .code yX1_close cX1_close 5 none :: wA
def wsX1_swap : List Cond := .code yX1_swap cX1_swap 4 (some .int) :: wA
def wsX1_take : List Cond := .code yX1_take cX1_take 3 (some .int) :: wA
def wsX1_set : List Cond := .code yX1_set cX1_set 4 (some .int) :: wA
def wsX1_get : List Cond := .code yX1_get cX1_get 2 (some .int) :: wA
def wsX1_turn : List Cond := .code yX1_turn cX1_turn 3 (some .int) :: wA
def wsX1_length : List Cond := .code yX1_length cX1_length 3 (some .int) :: wA
def wsX1_find : List Cond := .code yX1_find cX1_find 4 (some .int) :: wA
def wsX1_stands : List Cond := .code yX1_stands cX1_stands 3 (some .boolean) :: wA
def wsX1_look : List Cond := .code yX1_look cX1_look 4 (some .int) :: wA
def wsX1_compare : List Cond := .code yX1_compare cX1_compare 2 (some .int) :: wA
end
section
/-! the state of a text, and what each call answers: pure words, the same for class and reference -/
abbrev tS : Type := Nat × (Nat → Int32) × Nat × (Nat → Int32)
/-- an actual state u agrees with the state v that is meant: what lies behind an end is any -/
def tE (u v : tS) : Prop := u.1 = v.1 ∧ (∀ j, j < v.1 → u.2.1 j = v.2.1 j) ∧ u.2.2.1 = v.2.2.1 ∧ (∀ j, j < v.2.2.1 → u.2.2.2 j = v.2.2.2 j) ∧ v.1 ≤ 3000 ∧ v.2.2.1 ≤ 40
theorem tE_mk {n k : Nat} {T G T0 G0 : Nat → Int32} (h1 : ∀ j, j < n → T j = T0 j) (h2 : ∀ j, j < k → G j = G0 j) (h3 : n ≤ 3000) (h4 : k ≤ 40) : tE (n, T, k, G) (n, T0, k, G0) := ⟨rfl, h1, rfl, h2, h3, h4⟩
theorem tE_of {u : tS} {n k : Nat} {T0 G0 : Nat → Int32} (h : tE u (n, T0, k, G0)) : ∃ T G : Nat → Int32, u = (n, T, k, G) ∧ (∀ j, j < n → T j = T0 j) ∧ (∀ j, j < k → G j = G0 j) ∧ n ≤ 3000 ∧ k ≤ 40 := by
  obtain ⟨n1, T1, k1, G1⟩ := u
  obtain ⟨e1, e2, e3, e4, e5, e6⟩ := h
  dsimp only at e1 e2 e3 e4 e5 e6
  subst e1
  subst e3
  exact ⟨T1, G1, rfl, e2, e4, e5, e6⟩
/-- the signs p .. q-1 become the first m of w -/
def tl_rep (T : Nat → Int32) (p q : Nat) (w : Nat → Int32) (m : Nat) : Nat → Int32 := fun j => if j < p then T j else if j < p + m then w (j - p) else T (j - (p + m) + q)
def sp_put (p q : Nat) (w : Nat → Int32) (m : Nat) (n : Nat) (T : Nat → Int32) (k : Nat) (G : Nat → Int32) : Int32 × tS := if n - (q - p) + m ≤ 3000 then (nI (n - (q - p) + m), (n - (q - p) + m, tl_rep T p q w m, k, G)) else (-3, (n, T, k, G))
def tl_yes : Nat → Int32 := fun j => if j = 0 then 116 else if j = 1 then 114 else if j = 2 then 117 else 101
def tl_no : Nat → Int32 := fun j => if j = 0 then 102 else if j = 1 then 97 else if j = 2 then 108 else if j = 3 then 115 else 101
-- digits
def dg_cf : Nat → Nat → Nat
  | 0, _ => 1
  | f + 1, a => if a < 10 then 1 else dg_cf f (a / 10) + 1
def dg_c (a : Nat) : Nat := dg_cf 20 a
def dg_m (x : Int64) : Nat := dg_c x.toInt.natAbs + (if x.toInt < 0 then 1 else 0)
def dg_w (x : Int64) : Nat → Int32 := fun j => if x.toInt < 0 ∧ j = 0 then 45 else nI (48 + x.toInt.natAbs / 10 ^ (dg_m x - 1 - j) % 10)
theorem dg_cf_uni : ∀ (f a c : Nat), 1 ≤ c → c ≤ f + 1 → a < 10 ^ c → (c = 1 ∨ 10 ^ (c - 1) ≤ a) → dg_cf f a = c := by
  intro f
  induction f with
  | zero =>
    intro a c h1 h2 _ _
    have : c = 1 := by omega
    subst this
    rfl
  | succ f ih =>
    intro a c h1 h2 h3 h4
    rw [dg_cf]
    by_cases ha : a < 10
    · rw [if_pos ha]
      rcases h4 with h4 | h4
      · exact h4.symm
      · by_cases hc : c = 1
        · exact hc.symm
        · have h5 : 10 ^ 1 ≤ 10 ^ (c - 1) := Nat.pow_le_pow_right (by decide) (by omega)
          rw [Nat.pow_one] at h5
          omega
    · rw [if_neg ha]
      by_cases hc : c = 1
      · subst hc
        rw [Nat.pow_one] at h3
        omega
      · obtain ⟨c', rfl⟩ : ∃ c', c = c' + 1 := ⟨c - 1, by omega⟩
        rw [Nat.pow_succ] at h3
        have h6 := ih (a / 10) c' (by omega) (by omega) (Nat.div_lt_of_lt_mul (by omega)) (by
          by_cases hc' : c' = 1
          · exact Or.inl hc'
          · right
            rcases h4 with h4 | h4
            · omega
            · rw [Nat.add_sub_cancel] at h4
              obtain ⟨c2, rfl⟩ : ∃ c2, c' = c2 + 1 := ⟨c' - 1, by omega⟩
              rw [Nat.pow_succ] at h4
              rw [Nat.add_sub_cancel]
              exact (Nat.le_div_iff_mul_le (by decide)).mpr h4)
        rw [h6]
theorem dg_c_uni {a c : Nat} (h1 : 1 ≤ c) (h2 : c ≤ 20) (h3 : a < 10 ^ c) (h4 : c = 1 ∨ 10 ^ (c - 1) ≤ a) : dg_c a = c := dg_cf_uni 20 a c h1 (by omega) h3 h4
theorem dg_abs_lt (x : Int64) : x.toInt.natAbs < 10 ^ 19 := by
  have h1 := Int64.le_toInt x
  have h2 := Int64.toInt_lt x
  omega
theorem dg_bm {a : Int} (h1 : -9223372036854775808 ≤ a) (h2 : a < 9223372036854775808) : a.bmod (2 ^ 64) = a := Int.bmod_eq_of_le (by omega) (by omega)
theorem tl_bm {a : Int} (h1 : -2147483648 ≤ a) (h2 : a < 2147483648) : a.bmod (2 ^ 32) = a := Int.bmod_eq_of_le (by omega) (by omega)
theorem dg_tdiv (x : Int64) : (x / 10).toInt = x.toInt.tdiv 10 := Int64.toInt_div_of_ne_right x 10 (by decide)
theorem dg_tfacts (a : Int) : 10 * a.tdiv 10 + a.tmod 10 = a ∧ (0 ≤ a → 0 ≤ a.tmod 10 ∧ a.tmod 10 < 10) ∧ (a < 0 → -10 < a.tmod 10 ∧ a.tmod 10 ≤ 0) := by
  refine ⟨Int.mul_tdiv_add_tmod a 10, fun h => ⟨Int.tmod_nonneg 10 h, Int.tmod_lt_of_pos a (by decide)⟩, fun h => ?_⟩
  have h1 : 0 ≤ (-a).tmod 10 := Int.tmod_nonneg 10 (by omega)
  have h2 : (-a).tmod 10 < 10 := Int.tmod_lt_of_pos (-a) (by decide)
  rw [Int.neg_tmod] at h1 h2
  omega
theorem dg_div (x : Int64) : (x / 10).toInt.natAbs = x.toInt.natAbs / 10 := by
  rw [dg_tdiv, Int.natAbs_tdiv]
  rfl
theorem dg_rem0 (x : Int64) : (x - x / 10 * 10).toInt = x.toInt.tmod 10 := by
  have h1 := Int64.le_toInt x
  have h2 := Int64.toInt_lt x
  obtain ⟨e1, e2, e3⟩ := dg_tfacts x.toInt
  rw [Int64.toInt_sub, Int64.toInt_mul, dg_tdiv, show (10 : Int64).toInt = 10 from by decide]
  have hb : (x.toInt.tdiv 10 * 10).bmod (2 ^ 64) = x.toInt.tdiv 10 * 10 := dg_bm (by omega) (by omega)
  rw [hb, dg_bm (by omega) (by omega)]
  omega
theorem dg_rem (x : Int64) : (x - x / 10 * 10).toInt32.toInt = x.toInt.tmod 10 := by
  obtain ⟨e1, e2, e3⟩ := dg_tfacts x.toInt
  rw [Int64.toInt_toInt32, dg_rem0, tl_bm (by omega) (by omega)]
theorem tl_sub0 {x : Int32} (h : -2147483648 < x.toInt) : ((0 : Int32) - x).toInt = - x.toInt := by
  have h2 := Int32.toInt_lt x
  rw [Int32.toInt_sub, Int32.toInt_zero, tl_bm (by omega) (by omega)]
  omega
theorem tl_neg0 {x : Int32} (h : -2147483648 < x.toInt) : (-x).toInt = - x.toInt := by
  have h2 := Int32.toInt_lt x
  rw [Int32.toInt_neg, tl_bm (by omega) (by omega)]
theorem dg_rem_abs (x : Int64) : (x.toInt.tmod 10).natAbs = x.toInt.natAbs % 10 := by
  rw [Int.natAbs_tmod]
  rfl
theorem dg_zero (x : Int64) : x = 0 ↔ x.toInt.natAbs = 0 := by
  constructor
  · intro h
    subst h
    decide
  · intro h
    have h1 : x.toInt = 0 := by omega
    exact Int64.toInt_inj.mp (by rw [h1]; decide)
-- searches, sums, comparison
abbrev tl_std (n : Nat) (T : Nat → Int32) (k : Nat) (G : Nat → Int32) (a : Nat) : Prop := a + k ≤ n ∧ ∀ j, j < k → (T (a + j)).toInt = (G j).toInt
def tl_fw (n : Nat) (T : Nat → Int32) (k : Nat) (G : Nat → Int32) : Nat → Nat → Int32
  | 0, _ => -1
  | c + 1, a => if tl_std n T k G a then nI a else tl_fw n T k G c (a + 1)
def tl_bw (n : Nat) (T : Nat → Int32) (k : Nat) (G : Nat → Int32) : Nat → Int32
  | 0 => -1
  | c + 1 => if tl_std n T k G c then nI c else tl_bw n T k G c
theorem tl_fw_none {n : Nat} {T : Nat → Int32} {k : Nat} {G : Nat → Int32} : ∀ (c a : Nat), n < a + k → tl_fw n T k G c a = -1 := by
  intro c
  induction c with
  | zero => intro a _; rfl
  | succ c ih =>
    intro a h
    rw [tl_fw, if_neg (fun q => by have := q.1; omega)]
    exact ih (a + 1) (by omega)
theorem tl_bw_skip {n : Nat} {T : Nat → Int32} {k : Nat} {G : Nat → Int32} : ∀ (d c : Nat), n < c + k → tl_bw n T k G (c + d) = tl_bw n T k G c := by
  intro d
  induction d with
  | zero => intro c _; rfl
  | succ d ih =>
    intro c h
    show tl_bw n T k G (c + d + 1) = _
    rw [tl_bw, if_neg (fun q => by have := q.1; omega)]
    exact ih c h
def tl_sum (T : Nat → Int32) : Nat → Int32
  | 0 => nI 0
  | j + 1 => tl_sum T j + nI (j + 1) * T j
def tl_ord (n k : Nat) : Int32 := if n = k then 0 else if n < k then -1 else 1
def tl_cmp (T G : Nat → Int32) (d : Int32) : Nat → Nat → Int32
  | 0, _ => d
  | c + 1, a => if (T a).toInt = (G a).toInt then tl_cmp T G d c (a + 1) else if (T a).toInt < (G a).toInt then -1 else 1
-- the calls
def sp_note (x : Int32) (n : Nat) (T : Nat → Int32) (k : Nat) (G : Nat → Int32) : Int32 × tS := if (0 ≤ x.toInt ∧ x.toInt ≤ 65535 ∧ (x.toInt < 55296 ∨ 57343 < x.toInt)) then (if 40 ≤ k then (-3, (n, T, k, G)) else (nI (k + 1), (n, T, k + 1, upd G k x))) else (-1, (n, T, k, G))
def sp_drop (n : Nat) (T : Nat → Int32) (k : Nat) (G : Nat → Int32) : Int32 × tS := (nI k, (n, T, 0, G))
def sp_add (x : Int32) (y : Int64) (n : Nat) (T : Nat → Int32) (k : Nat) (G : Nat → Int32) : Int32 × tS :=
  if x.toInt = 0 then sp_put n n (dg_w y) (dg_m y) n T k G
  else if x.toInt = 1 then (if y.toInt = 0 then sp_put n n tl_no 5 n T k G else sp_put n n tl_yes 4 n T k G)
  else if x.toInt = 2 then sp_put n n G k n T k G
  else if x.toInt = 3 then (if (0 ≤ y.toInt ∧ y.toInt ≤ 65535 ∧ (y.toInt < 55296 ∨ 57343 < y.toInt)) then sp_put n n (fun _ => y.toInt32) 1 n T k G else (-1, (n, T, k, G)))
  else (-1, (n, T, k, G))
def sp_insert (x d : Int32) (y : Int64) (n : Nat) (T : Nat → Int32) (k : Nat) (G : Nat → Int32) : Int32 × tS :=
  if 0 ≤ x.toInt ∧ x.toInt ≤ n then (if d.toInt = 0 then sp_put x.toNatClampNeg x.toNatClampNeg G k n T k G else sp_put x.toNatClampNeg x.toNatClampNeg (dg_w y) (dg_m y) n T k G) else (-1, (n, T, k, G))
def sp_cut (x y : Int32) (n : Nat) (T : Nat → Int32) (k : Nat) (G : Nat → Int32) : Int32 × tS :=
  if 0 ≤ x.toInt ∧ x.toInt ≤ n ∧ x.toInt ≤ y.toInt then sp_put x.toNatClampNeg (min y.toNatClampNeg n) G 0 n T k G else (-1, (n, T, k, G))
def sp_swap (x y : Int32) (n : Nat) (T : Nat → Int32) (k : Nat) (G : Nat → Int32) : Int32 × tS :=
  if 0 ≤ x.toInt ∧ x.toInt ≤ n ∧ x.toInt ≤ y.toInt then sp_put x.toNatClampNeg (min y.toNatClampNeg n) G k n T k G else (-1, (n, T, k, G))
def sp_take (x : Int32) (n : Nat) (T : Nat → Int32) (k : Nat) (G : Nat → Int32) : Int32 × tS :=
  if 0 ≤ x.toInt ∧ x.toInt < n then (T x.toNatClampNeg, (n - 1, tl_rep T x.toNatClampNeg (x.toNatClampNeg + 1) G 0, k, G)) else (-1, (n, T, k, G))
def sp_set (x y : Int32) (n : Nat) (T : Nat → Int32) (k : Nat) (G : Nat → Int32) : Int32 × tS :=
  if 0 ≤ x.toInt ∧ x.toInt < n ∧ (0 ≤ y.toInt ∧ y.toInt ≤ 65535 ∧ (y.toInt < 55296 ∨ 57343 < y.toInt)) then (T x.toNatClampNeg, (n, upd T x.toNatClampNeg y, k, G)) else (-1, (n, T, k, G))
def sp_get (x : Int32) (n : Nat) (T : Nat → Int32) : Int32 := if 0 ≤ x.toInt ∧ x.toInt < n then T x.toNatClampNeg else -1
def sp_turn (n : Nat) (T : Nat → Int32) (k : Nat) (G : Nat → Int32) : Int32 × tS := (nI n, (n, fun j => T (n - 1 - j), k, G))
def sp_find (x d : Int32) (n : Nat) (T : Nat → Int32) (k : Nat) (G : Nat → Int32) : Int32 :=
  if d.toInt = 0 then tl_fw n T k G (n + 1 - min x.toNatClampNeg n) (min x.toNatClampNeg n)
  else if x.toInt < 0 then -1 else tl_bw n T k G (min x.toNatClampNeg n + 1)
def sp_length (x : Int32) (n : Nat) (T : Nat → Int32) (k : Nat) (G : Nat → Int32) : Int32 × tS :=
  if x.toInt < 0 then (-1, (n, T, k, G)) else if 3000 < x.toInt then (-3, (n, T, k, G)) else (x, (x.toNatClampNeg, fun j => if j < n then T j else 0, k, G))
def sp_lift (x y : Int32) (n : Nat) (T : Nat → Int32) (k : Nat) (G : Nat → Int32) : Int32 × tS :=
  if 0 ≤ x.toInt ∧ x.toInt ≤ y.toInt ∧ y.toInt ≤ n then (if 40 < y.toInt - x.toInt then (-3, (n, T, k, G)) else (nI (y.toNatClampNeg - x.toNatClampNeg), (n, T, y.toNatClampNeg - x.toNatClampNeg, fun j => T (x.toNatClampNeg + j)))) else (-1, (n, T, k, G))
def sp_look (x : Int32) (n : Nat) (T : Nat → Int32) (k : Nat) : Int32 := if x.toInt = 0 then nI n else if x.toInt = 1 then nI k else if x.toInt = 2 then tl_sum T n else -1
def sp_scrap (x : Int32) (k : Nat) (G : Nat → Int32) : Int32 := if 0 ≤ x.toInt ∧ x.toInt < k then G x.toNatClampNeg else -1
def sp_compare (n : Nat) (T : Nat → Int32) (k : Nat) (G : Nat → Int32) : Int32 := tl_cmp T G (tl_ord n k) (min n k) 0
theorem tl_fw_step {n : Nat} {T : Nat → Int32} {k : Nat} {G : Nat → Int32} {a : Nat} (h : a ≤ n) : tl_fw n T k G (n + 1 - a) a = if tl_std n T k G a then nI a else tl_fw n T k G (n + 1 - (a + 1)) (a + 1) := by
  rw [show n + 1 - a = (n + 1 - (a + 1)) + 1 by omega, tl_fw]
theorem tl_cmp_step {T G : Nat → Int32} {d : Int32} {c a : Nat} (h : a < c) : tl_cmp T G d (c - a) a = if (T a).toInt = (G a).toInt then tl_cmp T G d (c - (a + 1)) (a + 1) else if (T a).toInt < (G a).toInt then -1 else 1 := by
  rw [show c - a = (c - (a + 1)) + 1 by omega, tl_cmp]
theorem tl_bw_init {n : Nat} {T : Nat → Int32} {k : Nat} {G : Nat → Int32} {x z : Int32} (hn : n < 2 ^ 31) (h : (z.toInt = x.toInt ∧ x.toInt + k ≤ n) ∨ (z.toInt = (n : Int) - k ∧ (n : Int) < x.toInt + k)) : (if x.toInt < 0 then (-1 : Int32) else tl_bw n T k G (min x.toNatClampNeg n + 1)) = tl_bw n T k G (z.toInt + 1).toNat := by
  have hx : x.toNatClampNeg = x.toInt.toNat := rfl
  by_cases h0 : x.toInt < 0
  · rw [if_pos h0, show (z.toInt + 1).toNat = 0 by omega]
    rfl
  · rw [if_neg h0]
    have e : min x.toNatClampNeg n + 1 = (z.toInt + 1).toNat + (min x.toNatClampNeg n + 1 - (z.toInt + 1).toNat) := by omega
    by_cases h1 : min x.toNatClampNeg n + 1 = (z.toInt + 1).toNat
    · rw [h1]
    · rw [e]
      exact tl_bw_skip _ _ (by omega)
theorem dg_dig {y : Int64} {b : Nat} (h : y.toInt.natAbs = b) : (if 0 ≤ (y - y / 10 * 10).toInt32 then (y - y / 10 * 10).toInt32 else 0 - (y - y / 10 * 10).toInt32) = nI (b % 10) := by
  have h1 := dg_rem y
  have h2 := dg_rem_abs y
  generalize (y - y / 10 * 10).toInt32 = z at h1 ⊢
  rw [h] at h2
  have h3 : b % 10 < 10 := Nat.mod_lt _ (by decide)
  apply Int32.toInt_inj.mp
  rw [nI_toInt (by omega)]
  by_cases h0 : 0 ≤ z
  · rw [if_pos h0]
    rw [Int32.le_iff_toInt_le, Int32.toInt_zero] at h0
    omega
  · rw [if_neg h0]
    rw [Int32.le_iff_toInt_le, Int32.toInt_zero] at h0
    rw [tl_sub0 (by omega)]
    omega
theorem dg_dig2 {y : Int64} {b : Nat} (h : y.toInt.natAbs = b) : (if (y - y / 10 * 10).toInt32.toInt < 0 then -(y - y / 10 * 10).toInt32 else (y - y / 10 * 10).toInt32) = nI (b % 10) := by
  have h1 := dg_rem y
  have h2 := dg_rem_abs y
  generalize (y - y / 10 * 10).toInt32 = z at h1 ⊢
  rw [h] at h2
  have h3 : b % 10 < 10 := Nat.mod_lt _ (by decide)
  apply Int32.toInt_inj.mp
  rw [nI_toInt (by omega)]
  by_cases h0 : z.toInt < 0
  · rw [if_pos h0, tl_neg0 (by omega)]
    omega
  · rw [if_neg h0]
    omega
-- what the class writes into its row agrees with what is meant
theorem pu_scrap {n k a b : Nat} {T G T0 G0 : Nat → Int32} (hT : ∀ j, j < n → T j = T0 j) (hG : ∀ j, j < k → G j = G0 j) (h1 : a ≤ b) (h2 : b ≤ n) : ∀ j, j < n - (b - a) + k → va_cpy G (va_cpy T T b (a + k) (n - b)) 0 a k j = tl_rep T0 a b G0 k j := by
  intro j hj
  unfold tl_rep
  by_cases c1 : j < a
  · rw [if_pos c1, pk_cpy_out (Or.inl c1), pk_cpy_out (Or.inl (by omega))]
    exact hT j (by omega)
  · rw [if_neg c1]
    by_cases c2 : j < a + k
    · rw [if_pos c2, pk_cpy_in (by omega) c2, Nat.zero_add]
      exact hG _ (by omega)
    · rw [if_neg c2, pk_cpy_out (Or.inr (by omega)), pk_cpy_in (by omega) (by omega), hT _ (by omega)]
      congr 1
      omega
theorem pu_sign {n a : Nat} {T T0 : Nat → Int32} {y : Int32} (hT : ∀ j, j < n → T j = T0 j) (h2 : a ≤ n) : ∀ j, j < n - (a - a) + 1 → upd (va_cpy T T a (a + 1) (n - a)) a y j = tl_rep T0 a a (fun _ => y) 1 j := by
  intro j hj
  unfold tl_rep
  by_cases c1 : j < a
  · rw [if_pos c1, pk_un (by omega), pk_cpy_out (Or.inl (by omega))]
    exact hT j (by omega)
  · rw [if_neg c1]
    by_cases c2 : j < a + 1
    · rw [if_pos c2]
      have : j = a := by omega
      subst this
      exact pk_us
    · rw [if_neg c2, pk_un (by omega), pk_cpy_in (by omega) (by omega), hT _ (by omega)]
      congr 1
      omega
theorem pu_cut {n a b : Nat} {T T0 : Nat → Int32} {w : Nat → Int32} (hT : ∀ j, j < n → T j = T0 j) (h1 : a ≤ b) (h2 : b ≤ n) : ∀ j, j < n - (b - a) + 0 → va_cpy T T b (a + 0) (n - b) j = tl_rep T0 a b w 0 j := by
  intro j hj
  unfold tl_rep
  by_cases c1 : j < a
  · rw [if_pos c1, pk_cpy_out (Or.inl (by omega))]
    exact hT j (by omega)
  · rw [if_neg c1, if_neg (by omega), pk_cpy_in (by omega) (by omega), hT _ (by omega)]
    congr 1
    omega
/-- the row behind makeGap, ahead of what is written into the gap -/
theorem pu_gap {n a m : Nat} {T T0 : Nat → Int32} {w : Nat → Int32} (hT : ∀ j, j < n → T j = T0 j) (h2 : a ≤ n) : ∀ i, i < n - (a - a) + m → (i < a ∨ a + m ≤ i) → va_cpy T T a (a + m) (n - a) i = tl_rep T0 a a w m i := by
  intro j hj h
  unfold tl_rep
  rcases h with c1 | c1
  · rw [if_pos c1, pk_cpy_out (Or.inl (by omega))]
    exact hT j (by omega)
  · rw [if_neg (by omega), if_neg (by omega), pk_cpy_in (by omega) (by omega), hT _ (by omega)]
    congr 1
    omega
theorem tl_rep_in {T0 w : Nat → Int32} {a b m j i : Nat} (h : j = a + i) (hi : i < m) : tl_rep T0 a b w m j = w i := by
  unfold tl_rep
  rw [if_neg (by omega), if_pos (by omega)]
  congr 1
  omega
theorem pu_turn {n j : Nat} {F T0 : Nat → Int32} (hj : j < n / 2) (hF : ∀ i, i < n → F i = if i < j ∨ n - 1 - j < i then T0 (n - 1 - i) else T0 i) : ∀ i, i < n → upd (upd F j (T0 (n - 1 - j))) (n - 1 - j) (T0 j) i = if i < j + 1 ∨ n - 1 - (j + 1) < i then T0 (n - 1 - i) else T0 i := by
  intro i hi
  by_cases c1 : i = n - 1 - j
  · subst c1
    rw [pk_us, if_pos (Or.inr (by omega))]
    congr 1
    omega
  · rw [pk_un c1]
    by_cases c2 : i = j
    · subst c2
      rw [pk_us, if_pos (Or.inl (by omega))]
    · rw [pk_un c2, hF i hi]
      by_cases c3 : i < j ∨ n - 1 - j < i
      · rw [if_pos c3, if_pos (by omega)]
      · rw [if_neg c3, if_neg (by omega)]
theorem pu_turn_end {n j : Nat} {F T0 : Nat → Int32} (h1 : j ≤ n / 2) (h2 : n / 2 ≤ j) (hF : ∀ i, i < n → F i = if i < j ∨ n - 1 - j < i then T0 (n - 1 - i) else T0 i) : ∀ i, i < n → F i = T0 (n - 1 - i) := by
  intro i hi
  rw [hF i hi]
  by_cases c : i < j ∨ n - 1 - j < i
  · rw [if_pos c]
  · rw [if_neg c]
    congr 1
    omega
theorem dg_more {A b c : Nat} (hy : b = A / 10 ^ c) (h : ¬ b = 0) : c + 1 = 1 ∨ 10 ^ (c + 1 - 1) ≤ A := by
  right
  rw [Nat.add_sub_cancel]
  exact Nat.le_of_not_lt (fun q => h (by rw [hy]; exact Nat.div_eq_of_lt q))
theorem dg_less {A b c : Nat} (hy : b = A / 10 ^ c) (h : b = 0) : A < 10 ^ c := by
  rw [h] at hy
  rcases Nat.lt_or_ge A (10 ^ c) with q | q
  · exact q
  · have := Nat.div_pos q (Nat.pow_pos (by decide))
    omega
theorem dg_cf_spec : ∀ (f a : Nat), a < 10 ^ (f + 1) → 1 ≤ dg_cf f a ∧ dg_cf f a ≤ f + 1 ∧ a < 10 ^ dg_cf f a ∧ (dg_cf f a = 1 ∨ 10 ^ (dg_cf f a - 1) ≤ a) := by
  intro f
  induction f with
  | zero =>
    intro a h
    exact ⟨Nat.le_refl _, Nat.le_refl _, h, Or.inl rfl⟩
  | succ f ih =>
    intro a h
    rw [dg_cf]
    by_cases ha : a < 10
    · rw [if_pos ha]
      exact ⟨Nat.le_refl _, by omega, by rw [Nat.pow_one]; exact ha, Or.inl rfl⟩
    · rw [if_neg ha]
      rw [Nat.pow_succ] at h
      obtain ⟨h1, h2, h3, h4⟩ := ih (a / 10) (Nat.div_lt_of_lt_mul (by omega))
      refine ⟨by omega, by omega, ?_, Or.inr ?_⟩
      · rw [Nat.pow_succ]
        omega
      · rw [Nat.add_sub_cancel]
        rcases h4 with h4 | h4
        · rw [h4, Nat.pow_one]
          omega
        · have e : dg_cf f (a / 10) = (dg_cf f (a / 10) - 1) + 1 := by omega
          rw [e, Nat.pow_succ]
          omega
theorem dg_c_spec {a : Nat} (h : a < 10 ^ 19) : 1 ≤ dg_c a ∧ dg_c a ≤ 19 ∧ a < 10 ^ dg_c a ∧ (dg_c a = 1 ∨ 10 ^ (dg_c a - 1) ≤ a) := by
  obtain ⟨h1, h2, h3, h4⟩ := dg_cf_spec 20 a (by omega)
  refine ⟨h1, ?_, h3, h4⟩
  rcases Nat.lt_or_ge (dg_cf 20 a) 20 with q | q
  · show dg_cf 20 a ≤ 19
    omega
  · rcases h4 with h4 | h4
    · omega
    · have := Nat.pow_le_pow_right (n := 10) (by decide) (show 19 ≤ dg_cf 20 a - 1 by omega)
      omega
theorem dg_c_le (x : Int64) : dg_c x.toInt.natAbs ≤ 19 := (dg_c_spec (dg_abs_lt x)).2.1
theorem dg_m_le (x : Int64) : dg_m x ≤ 20 := by
  have := dg_c_le x
  unfold dg_m
  split <;> omega
theorem dg_m_pos (x : Int64) : 1 ≤ dg_m x := by
  have := (dg_c_spec (dg_abs_lt x)).1
  unfold dg_m
  split <;> omega
theorem dg_down {x y : Int64} {i : Nat} (hy : y.toInt.natAbs = x.toInt.natAbs / 10 ^ (dg_m x - (i + 1))) (hi : i < dg_m x) : (y / 10).toInt.natAbs = x.toInt.natAbs / 10 ^ (dg_m x - i) := by
  rw [dg_div, hy, Nat.div_div_eq_div_mul, ← Nat.pow_succ, show (dg_m x - (i + 1)).succ = dg_m x - i by omega]
theorem dg_w_at {x : Int64} {i : Nat} (hi : i < dg_m x) (h : ¬ (x.toInt < 0 ∧ i = 0)) : dg_w x i = nI (48 + x.toInt.natAbs / 10 ^ (dg_m x - (i + 1)) % 10) := by
  unfold dg_w
  rw [if_neg h, show dg_m x - 1 - i = dg_m x - (i + 1) by omega]
theorem pu_dg0n {n a : Nat} {T T0 : Nat → Int32} {x : Int64} (hT : ∀ j, j < n → T j = T0 j) (h2 : a ≤ n) (h3 : x.toInt < 0) : ∀ i, i < n - (a - a) + dg_m x → (i < a ∨ a + dg_m x ≤ i ∨ i = a) → upd (va_cpy T T a (a + dg_m x) (n - a)) a (nI 45) i = tl_rep T0 a a (dg_w x) (dg_m x) i := by
  intro i hi h
  have h1 := dg_m_pos x
  by_cases c : i = a
  · subst c
    rw [pk_us, tl_rep_in (a := i) (m := dg_m x) (i := 0) (j := i) rfl (by omega)]
    unfold dg_w
    rw [if_pos ⟨h3, rfl⟩]
    rfl
  · rw [pk_un c]
    exact pu_gap hT h2 i hi (by omega)
theorem pu_dgsp {n a i : Nat} {F T0 : Nat → Int32} {x : Int64} (h3 : ¬ x.toInt < 0) (hi : i < dg_m x) (_h : 0 ≤ i) (hF : ∀ q, q < n - (a - a) + dg_m x → (q < a ∨ a + (i + 1) ≤ q) → F q = tl_rep T0 a a (dg_w x) (dg_m x) q) : ∀ q, q < n - (a - a) + dg_m x → (q < a ∨ a + i ≤ q) → upd F (a + i) (nI (48 + x.toInt.natAbs / 10 ^ (dg_m x - (i + 1)) % 10)) q = tl_rep T0 a a (dg_w x) (dg_m x) q := by
  intro q hq h
  by_cases c : q = a + i
  · subst c
    rw [pk_us, tl_rep_in (i := i) rfl hi, dg_w_at hi (fun z => h3 z.1)]
  · rw [pk_un c]
    exact hF q hq (by omega)
theorem pu_dgsn {n a i : Nat} {F T0 : Nat → Int32} {x : Int64} (_h3 : x.toInt < 0) (hi : i < dg_m x) (h : 1 ≤ i) (hF : ∀ q, q < n - (a - a) + dg_m x → (q < a ∨ a + (i + 1) ≤ q ∨ q = a) → F q = tl_rep T0 a a (dg_w x) (dg_m x) q) : ∀ q, q < n - (a - a) + dg_m x → (q < a ∨ a + i ≤ q ∨ q = a) → upd F (a + i) (nI (48 + x.toInt.natAbs / 10 ^ (dg_m x - (i + 1)) % 10)) q = tl_rep T0 a a (dg_w x) (dg_m x) q := by
  intro q hq h2
  by_cases c : q = a + i
  · subst c
    rw [pk_us, tl_rep_in (i := i) rfl hi, dg_w_at hi (fun z => by omega)]
  · rw [pk_un c]
    exact hF q hq (by omega)
theorem pu_up {k : Nat} {G G0 : Nat → Int32} {x : Int32} (hG : ∀ j, j < k → G j = G0 j) : ∀ j, j < k + 1 → upd G k x j = upd G0 k x j := by
  intro j hj
  by_cases c : j = k
  · subst c
    rw [pk_us, pk_us]
  · rw [pk_un c, pk_un c]
    exact hG j (by omega)
theorem pu_ups {n a : Nat} {T T0 : Nat → Int32} {x : Int32} (hT : ∀ j, j < n → T j = T0 j) : ∀ j, j < n → upd T a x j = upd T0 a x j := by
  intro j hj
  by_cases c : j = a
  · subst c
    rw [pk_us, pk_us]
  · rw [pk_un c, pk_un c]
    exact hT j hj
theorem pu_take {n k a : Nat} {T G T0 G0 : Nat → Int32} (hT : ∀ j, j < n → T j = T0 j) (hG : ∀ j, j < k → G j = G0 j) (hn : n ≤ 3000) (hk : k ≤ 40) (h : a < n) : tE (n - (a + 1 - a) + 0, va_cpy T T (a + 1) (a + 0) (n - (a + 1)), k, G) (n - 1, tl_rep T0 a (a + 1) G0 0, k, G0) := by
  have h1 := pu_cut (w := G0) hT (show a ≤ a + 1 by omega) (show a + 1 ≤ n by omega)
  rw [show n - 1 = n - (a + 1 - a) + 0 by omega]
  exact tE_mk h1 hG (by omega) hk
theorem pu_turn0 {n : Nat} {T T0 : Nat → Int32} (hT : ∀ j, j < n → T j = T0 j) : ∀ i, i < n → T i = if i < 0 ∨ n - 1 - 0 < i then T0 (n - 1 - i) else T0 i := by
  intro i hi
  rw [if_neg (by omega)]
  exact hT i hi
theorem pu_len {n j : Nat} {F T0 : Nat → Int32} (hj : n ≤ j) (hF : ∀ i, i < j → F i = if i < n then T0 i else 0) : ∀ i, i < j + 1 → upd F j (nI 0) i = if i < n then T0 i else 0 := by
  intro i hi
  by_cases c : i = j
  · subst c
    rw [pk_us, if_neg (by omega)]
    rfl
  · rw [pk_un c]
    exact hF i (by omega)
theorem pu_lift {n a b : Nat} {T G T0 : Nat → Int32} (hT : ∀ j, j < n → T j = T0 j) (h1 : a ≤ b) (h2 : b ≤ n) : ∀ j, j < b - a → va_cpy T G a 0 (b - a) j = T0 (a + j) := by
  intro j hj
  rw [pk_cpy_in (by omega) (by omega), hT _ (by omega)]
  congr 1
theorem tl_ordI {n k : Nat} (hn : n < 2 ^ 31) (hk : k < 2 ^ 31) : (if (nI n).toInt = (nI k).toInt then (0 : Int32) else if (nI n).toInt < (nI k).toInt then -1 else 1) = tl_ord n k := by
  rw [nI_toInt hn, nI_toInt hk]
  unfold tl_ord
  (repeat' split) <;> first | rfl | (exfalso; omega)
theorem tl_bw_i1 {n k : Nat} {x y : Int32} (e : y.toInt = ((n : Nat) : Int) - ((k : Nat) : Int)) : (if y < x then y else x).toInt + k ≤ n ∨ (if y < x then y else x).toInt < 0 := by
  by_cases h : y < x
  · rw [if_pos h]
    omega
  · rw [if_neg h]
    rw [Int32.lt_iff_toInt_lt] at h
    omega
theorem tl_bw_i2 {n k : Nat} {x y : Int32} (e : y.toInt = ((n : Nat) : Int) - ((k : Nat) : Int)) : ((if y < x then y else x).toInt = x.toInt ∧ x.toInt + k ≤ n) ∨ ((if y < x then y else x).toInt = (n : Int) - k ∧ (n : Int) < x.toInt + k) := by
  by_cases h : y < x
  · rw [if_pos h]
    rw [Int32.lt_iff_toInt_lt] at h
    omega
  · rw [if_neg h]
    rw [Int32.lt_iff_toInt_lt] at h
    omega
end
section
/-! what the reference writes agrees with what is meant -/
theorem dg_more2 {A b c : Nat} (hy : b = A / 10 ^ c) (h : ¬ b = 0) : 10 ^ c ≤ A := Nat.le_of_not_lt (fun q => h (by rw [hy]; exact Nat.div_eq_of_lt q))
theorem dg_cap {x : Int64} {c : Nat} (h : 10 ^ c ≤ x.toInt.natAbs) : c ≤ 18 := by
  have h1 := dg_abs_lt x
  rcases Nat.lt_or_ge c 19 with q | q
  · omega
  · have := Nat.pow_le_pow_right (n := 10) (by decide) q
    omega
theorem pm_dgF {A c : Nat} {F : Nat → Int32} (hF : ∀ i, i < c → F i = nI (48 + A / 10 ^ i % 10)) : ∀ i, i < c + 1 → upd F c (nI (48 + A / 10 ^ c % 10)) i = nI (48 + A / 10 ^ i % 10) := by
  intro i hi
  by_cases q : i = c
  · subst q
    exact pk_us
  · rw [pk_un q]
    exact hF i (by omega)
theorem pm_dg_np {x : Int64} {c : Nat} (h : 0 ≤ x.toInt) (hcc : dg_c x.toInt.natAbs = c + 1) : nI (c + 1) = nI (dg_m x) := by
  unfold dg_m
  rw [if_neg (by omega), hcc]
theorem pm_dg_nn {x : Int64} {c : Nat} (h : ¬ 0 ≤ x.toInt) (hcc : dg_c x.toInt.natAbs = c + 1) : nI (c + 1 + 1) = nI (dg_m x) := by
  unfold dg_m
  rw [if_pos (by omega), hcc]
theorem pm_dg_wp {x : Int64} {c : Nat} {F : Nat → Int32} (h : 0 ≤ x.toInt) (hcc : dg_c x.toInt.natAbs = c + 1) (hF : ∀ i, i < c + 1 → F i = nI (48 + x.toInt.natAbs / 10 ^ i % 10)) : ∀ i, i < dg_m x → F i = dg_w x (dg_m x - 1 - i) := by
  have e : dg_m x = c + 1 := by
    unfold dg_m
    rw [if_neg (by omega), hcc]
  intro i hi
  rw [hF i (by omega), dg_w_at (by omega) (fun z => by omega), show dg_m x - (dg_m x - 1 - i + 1) = i by omega]
theorem pm_dg_wn {x : Int64} {c : Nat} {F : Nat → Int32} (h : ¬ 0 ≤ x.toInt) (hcc : dg_c x.toInt.natAbs = c + 1) (hF : ∀ i, i < c + 1 → F i = nI (48 + x.toInt.natAbs / 10 ^ i % 10)) : ∀ i, i < dg_m x → upd F (c + 1) (nI 45) i = dg_w x (dg_m x - 1 - i) := by
  have e : dg_m x = c + 1 + 1 := by
    unfold dg_m
    rw [if_pos (by omega), hcc]
  intro i hi
  by_cases q : i = c + 1
  · subst q
    rw [pk_us, show dg_m x - 1 - (c + 1) = 0 by omega]
    unfold dg_w
    rw [if_pos ⟨by omega, rfl⟩]
    rfl
  · rw [pk_un q, hF i (by omega), dg_w_at (by omega) (fun z => by omega), show dg_m x - (dg_m x - 1 - i + 1) = i by omega]
theorem pm_op1 {i m : Nat} {F T : Nat → Int32} (hF1 : ∀ q, q < i + 1 → F q = T q) : ∀ q, q < i → upd F (i + m) (T i) q = T q := by
  intro q hq
  rw [pk_un (by omega)]
  exact hF1 q (by omega)
theorem pm_op2 {n i m : Nat} {F T : Nat → Int32} (_hF1 : ∀ q, q < i + 1 → F q = T q) (hF2 : ∀ q, i + 1 ≤ q → q < n → F (q + m) = T q) : ∀ q, i ≤ q → q < n → upd F (i + m) (T i) (q + m) = T q := by
  intro q h1 h2
  by_cases c : q = i
  · subst c
    exact pk_us
  · rw [pk_un (by omega)]
    exact hF2 q (by omega) h2
theorem pm_cl1 {a b j : Nat} {F T : Nat → Int32} (hab : a ≤ b) (hj : b ≤ j) (hF1 : ∀ q, q < a → F q = T q) : ∀ q, q < a → upd F (j - (b - a)) (T j) q = T q := by
  intro q hq
  rw [pk_un (by omega)]
  exact hF1 q hq
theorem pm_cl2 {a b j : Nat} {F T : Nat → Int32} (hab : a ≤ b) (hj : b ≤ j) (hF2 : ∀ q, b ≤ q → q < j → F (q - (b - a)) = T q) : ∀ q, b ≤ q → q < j + 1 → upd F (j - (b - a)) (T j) (q - (b - a)) = T q := by
  intro q h1 h2
  by_cases c : q = j
  · subst c
    exact pk_us
  · rw [pk_un (by omega)]
    exact hF2 q h1 (by omega)
theorem pm_cl3 {n a b j : Nat} {F T : Nat → Int32} (hab : a ≤ b) (hj : b ≤ j) (hF3 : ∀ q, j ≤ q → q < n → F q = T q) : ∀ q, j + 1 ≤ q → q < n → upd F (j - (b - a)) (T j) q = T q := by
  intro q h1 h2
  rw [pk_un (by omega)]
  exact hF3 q (by omega) h2
theorem pm_cut {n a b : Nat} {F T T0 w : Nat → Int32} (hT : ∀ j, j < n → T j = T0 j) (h1 : a ≤ b) (h2 : b ≤ n) (hO1 : ∀ i, i < a → F i = T i) (hO2 : ∀ i, b ≤ i → i < n → F (i - (b - a)) = T i) : ∀ j, j < n - (b - a) → F j = tl_rep T0 a b w 0 j := by
  intro j hj
  unfold tl_rep
  by_cases c : j < a
  · rw [if_pos c, hO1 j c]
    exact hT j (by omega)
  · rw [if_neg c, if_neg (by omega)]
    have q := hO2 (j + (b - a)) (by omega) (by omega)
    rw [show j + (b - a) - (b - a) = j by omega] at q
    rw [q, hT _ (by omega), show j - (a + 0) + b = j + (b - a) by omega]
theorem pm_put0 {n a m : Nat} {F T T0 w : Nat → Int32} (hT : ∀ j, j < n → T j = T0 j) (h2 : a ≤ n) (hO1 : ∀ i, i < a → F i = T i) (hO2 : ∀ i, a ≤ i → i < n → F (i + m) = T i) : ∀ i, i < n + m → (i < a + 0 ∨ a + m ≤ i) → F i = tl_rep T0 a a w m i := by
  intro i hi h
  unfold tl_rep
  rcases h with h | h
  · rw [if_pos (by omega), hO1 i (by omega)]
    exact hT i (by omega)
  · rw [if_neg (by omega), if_neg (by omega)]
    have q := hO2 (i - m) (by omega) (by omega)
    rw [show i - m + m = i by omega] at q
    rw [q, hT _ (by omega), show i - (a + m) + a = i - m by omega]
theorem pm_puts {n a m j : Nat} {F T0 w : Nat → Int32} (hj : j < m) (hF : ∀ i, i < n + m → (i < a + j ∨ a + m ≤ i) → F i = tl_rep T0 a a w m i) : ∀ i, i < n + m → (i < a + (j + 1) ∨ a + m ≤ i) → upd F (a + j) (w j) i = tl_rep T0 a a w m i := by
  intro i hi h
  by_cases c : i = a + j
  · subst c
    rw [pk_us, tl_rep_in (i := j) rfl hj]
  · rw [pk_un c]
    exact hF i hi (by omega)
theorem tl_bw_m {n : Nat} {T : Nat → Int32} {k : Nat} {G : Nat → Int32} {x z : Int32} (h : (z.toInt = x.toInt ∧ x.toInt ≤ n) ∨ (z.toInt = (n : Int) ∧ (n : Int) < x.toInt)) : (if x.toInt < 0 then (-1 : Int32) else tl_bw n T k G (min x.toNatClampNeg n + 1)) = tl_bw n T k G (z.toInt + 1).toNat := by
  have hx : x.toNatClampNeg = x.toInt.toNat := rfl
  by_cases h0 : x.toInt < 0
  · rw [if_pos h0, show (z.toInt + 1).toNat = 0 by omega]
    rfl
  · rw [if_neg h0, show (z.toInt + 1).toNat = min x.toNatClampNeg n + 1 by omega]
theorem tl_fw_m {n : Nat} {T : Nat → Int32} {k : Nat} {G : Nat → Int32} {a b : Nat} (h : b = a) : tl_fw n T k G (n + 1 - b) b = tl_fw n T k G (n + 1 - a) a := by rw [h]
theorem pm_lift {a j : Nat} {F T0 : Nat → Int32} (hF : ∀ i, i < j → F i = T0 (a + i)) : ∀ i, i < j + 1 → upd F j (T0 (a + j)) i = T0 (a + i) := by
  intro i hi
  by_cases c : i = j
  · subst c
    exact pk_us
  · rw [pk_un c]
    exact hF i (by omega)
theorem pm_swap {n k a b : Nat} {T0 G0 : Nat → Int32} (h1 : a ≤ b) (h2 : b ≤ n) (h3 : n - (b - a) + k ≤ 3000) : sp_put a b G0 k n T0 k G0 = sp_put a a G0 k (n - (b - a)) (tl_rep T0 a b G0 0) k G0 := by
  unfold sp_put
  rw [if_pos h3, if_pos (by omega), Nat.sub_self, Nat.sub_zero]
  have e : tl_rep T0 a b G0 k = tl_rep (tl_rep T0 a b G0 0) a a G0 k := by
    funext j
    unfold tl_rep
    by_cases c1 : j < a
    · rw [if_pos c1, if_pos c1, if_pos c1]
    · rw [if_neg c1, if_neg c1]
      by_cases c2 : j < a + k
      · rw [if_pos c2, if_pos c2]
      · rw [if_neg c2, if_neg c2, if_neg (by omega), if_neg (by omega)]
        congr 1
        omega
  rw [e]
end
section
/-! rows of mine over the kit's: numbers by their places, a goal's end by a name -/
section TL
variable {p : Program} {l : Launch} {e : Env} {R : Room} {s : State} {m : MethodId} {args : Array Value} {below : List Frame} {meth : Method} {c : Code} {H : Heap} {locs : List Loc} {cells slots : Nat} {Q : State → Prop}
variable {cc : ByteArray} {pc : Nat} {ls : Array Slot} {rest : List Value} {D : va_G} {cl : List vw_C} {A : Nat → Prop} {a : Nat} {tys : List (ClassId × FieldType)} {ws : va_W} {H0 : Heap} {g : JFrame}
theorem tl_q (k : ∀ Q2 : State → Prop, Q2 = Q → W p l e R s m args below meth c H locs cells slots Q2 g) : W p l e R s m args below meth c H locs cells slots Q g := k Q rfl
theorem tl_top {x y : Int32} (h : x = y) (k : W p l e R s m args below meth c H locs cells slots Q (F0 m pc ls (.int y :: rest))) : W p l e R s m args below meth c H locs cells slots Q (F0 m pc ls (.int x :: rest)) := by rw [h]; exact k
theorem tl_topl {x y : Int64} (h : x = y) (k : W p l e R s m args below meth c H locs cells slots Q (F0 m pc ls (.long y :: rest))) : W p l e R s m args below meth c H locs cells slots Q (F0 m pc ls (.long x :: rest)) := by rw [h]; exact k
theorem tl_iald (hexec : p.tables.exec = Jvm.exec) (hb : c.code = cc) (hK : va_K D cl tys s) (hP : va_P D cl ws H) (q0 t0 : Nat) {cA : ClassId} {n : Nat} {f : Nat → Int32} (ha : ws[q0]? = some (a, .inl (cA, n, .inl f))) (ht : tys[t0]? = some (cA, .int)) {j : Nat} {v : Int32} (hj : j < n) (hn : n < 2 ^ 31) (hv : f j = v) (hdg : decode cc pc = .ok (.iaload, 1))
    (kk : W p l e R s m args below meth c H locs cells slots Q (F0 m (pc + 1) ls (.int v :: rest))) : W p l e R s m args below meth c H locs cells slots Q (F0 m pc ls (.int (nI j) :: .ref a :: rest)) :=
  va_iald hexec hb hK hP q0 t0 ha ht (vp_in_nI hj hn) hdg (by rw [nI_clamp (by omega), hv]; exact kk)
theorem tl_iast (hexec : p.tables.exec = Jvm.exec) (hb : c.code = cc) (hK : va_K D cl tys s) (hP : va_P D cl ws H) (hD : va_D A ws) (hS : va_S A H0 H locs) (q0 t0 : Nat) {cA : ClassId} {n : Nat} {f : Nat → Int32} (ha : ws[q0]? = some (a, .inl (cA, n, .inl f))) (ht : tys[t0]? = some (cA, .int)) {j : Nat} {x : Int32} (hj : j < n) (hn : n < 2 ^ 31) (hdg : decode cc pc = .ok (.iastore, 1))
    (kk : ∀ (H1 : Heap) (locs1 : List Loc), va_P D cl (ws.set q0 (a, .inl (cA, n, .inl (upd f j x)))) H1 → va_D A (ws.set q0 (a, .inl (cA, n, .inl (upd f j x)))) → va_S A H0 H1 locs1 → W p l e R s m args below meth c H1 locs1 cells slots Q (F0 m (pc + 1) ls rest)) : W p l e R s m args below meth c H locs cells slots Q (F0 m pc ls (.int x :: .int (nI j) :: .ref a :: rest)) :=
  va_iast hexec hb hK hP hD hS q0 t0 ha ht (vp_in_nI hj hn) hdg (by rw [nI_clamp (by omega)]; exact kk)
theorem tl_copy {cc : ByteArray} (hexec : p.tables.exec = Jvm.exec) (hb : c.code = cc) (hml : c.maxLocals = ls.size) {own : String} {index : Nat} (hown : s.vm.findClass own = some m.cls) (hlink : (Cond.methodLink own index arraycopyName).before args s = true) (hnat : (Cond.native arraycopyName).before args s = true) (hstat : (Cond.static arraycopyName).before args s = true) (hini : (Cond.initialized "java/lang/System").before args s = true)
    (hK : va_K D cl tys s) (hP : va_P D cl ws H) (hD : va_D A ws) (hS : va_S A H0 H locs) (q0 q1 t0 t1 : Nat) {a0 : Nat} {c0 c1 : ClassId} {n0 n1 : Nat} {f g : Nat → Int32} (ha0 : ws[q0]? = some (a0, .inl (c0, n0, .inl f))) (ha1 : ws[q1]? = some (a, .inl (c1, n1, .inl g))) (ht0 : tys[t0]? = some (c0, .int)) (ht1 : tys[t1]? = some (c1, .int))
    {sp dp n : Nat} (h0 : n0 < 2 ^ 31) (h1 : n1 < 2 ^ 31) (h4 : sp + n ≤ n0) (h5 : dp + n ≤ n1) (hframes : 1 ≤ R.frames) (hlocals : (rest.map fun v => v.category).sum + (nativeFrameWords "java/lang/System" "arraycopy" 5 + 11) ≤ R.locals) (hdg : decode cc pc = .ok (.invokestatic index, 3))
    (kk : ∀ (H1 : Heap) (locs1 : List Loc), va_P D cl (ws.set q1 (a, .inl (c1, n1, .inl (va_cpy f g sp dp n)))) H1 → va_D A (ws.set q1 (a, .inl (c1, n1, .inl (va_cpy f g sp dp n)))) → va_S A H0 H1 locs1 → W p l e R s m args below meth c H1 locs1 cells slots Q (F0 m (pc + 3) ls rest)) : W p l e R s m args below meth c H locs cells slots Q (F0 m pc ls (.int (nI n) :: .int (nI dp) :: .ref a :: .int (nI sp) :: .ref a0 :: rest)) := by
  have e1 : (nI sp).toNatClampNeg = sp := nI_clamp (by omega)
  have e2 : (nI dp).toNatClampNeg = dp := nI_clamp (by omega)
  have e3 : (nI n).toNatClampNeg = n := nI_clamp (by omega)
  refine va_copyi (ty := .int) hexec hb hml hown hlink hnat hstat hini hK hP hD hS q0 q1 t0 t1 ha0 ha1 ht0 ht1 rfl (nI_pos (by omega)) (nI_pos (by omega)) (nI_pos (by omega)) (by rw [e1, e3]; exact h4) (by rw [e2, e3]; exact h5) (fun _ _ => rfl) hframes hlocals hdg ?_
  rw [e1, e2, e3]
  exact kk
end TL
theorem tl_lt {x y : Int32} {a b : Int} (hx : x.toInt = a) (hy : y.toInt = b) : x < y ↔ a < b := by rw [Int32.lt_iff_toInt_lt, hx, hy]
theorem tl_le {x y : Int32} {a b : Int} (hx : x.toInt = a) (hy : y.toInt = b) : x ≤ y ↔ a ≤ b := by rw [Int32.le_iff_toInt_le, hx, hy]
theorem tl_eq {x y : Int32} {a b : Int} (hx : x.toInt = a) (hy : y.toInt = b) : x = y ↔ a = b := by rw [← Int32.toInt_inj, hx, hy]
theorem tl_llt {x y : Int64} {a b : Int} (hx : x.toInt = a) (hy : y.toInt = b) : lg_cmp x y < 0 ↔ a < b := by rw [lg_cmp_lt, Int64.lt_iff_toInt_lt, hx, hy]
theorem tl_lle {x y : Int64} {a b : Int} (hx : x.toInt = a) (hy : y.toInt = b) : lg_cmp x y ≤ 0 ↔ a ≤ b := by rw [lg_cmp_le, Int64.le_iff_toInt_le, hx, hy]
theorem tl_lgt {x y : Int64} {a b : Int} (hx : x.toInt = a) (hy : y.toInt = b) : 0 < lg_cmp x y ↔ b < a := by rw [lg_cmp_gt, Int64.lt_iff_toInt_lt, hx, hy]
theorem tl_lge {x y : Int64} {a b : Int} (hx : x.toInt = a) (hy : y.toInt = b) : 0 ≤ lg_cmp x y ↔ b ≤ a := by rw [lg_cmp_ge, Int64.le_iff_toInt_le, hx, hy]
theorem tl_leq {x y : Int64} {a b : Int} (hx : x.toInt = a) (hy : y.toInt = b) : lg_cmp x y = 0 ↔ a = b := by rw [lg_cmp_eq, ← Int64.toInt_inj, hx, hy]
theorem tl_of {x : Int32} (h : 0 ≤ x.toInt) : ∃ j : Nat, j < 2 ^ 31 ∧ x = nI j := nI_of (fun q => by rw [Int32.lt_iff_toInt_lt, Int32.toInt_zero] at q; omega)
theorem tl_b0 {r : Int32} {P : Prop} (h : (r = 1 ∧ P) ∨ (r = 0 ∧ ¬ P)) : r = 0 ↔ ¬ P := by
  rcases h with ⟨h1, h2⟩ | ⟨h1, h2⟩
  · rw [h1]
    exact ⟨fun q => absurd q (by decide), fun q => absurd h2 q⟩
  · exact ⟨fun _ => h2, fun _ => h1⟩
theorem tl_b1 {r : Int32} {P : Prop} (h : (r = 1 ∧ P) ∨ (r = 0 ∧ ¬ P)) : ¬ r = 0 ↔ P := by
  rcases h with ⟨h1, h2⟩ | ⟨h1, h2⟩
  · rw [h1]
    exact ⟨fun _ => h2, fun _ => by decide⟩
  · exact ⟨fun q => absurd h1 q, fun q => absurd q h2⟩
theorem tl_addv {x y : Int32} {a b : Int} (hx : x.toInt = a) (hy : y.toInt = b) (h1 : -2147483648 ≤ a + b) (h2 : a + b < 2147483648) : (x + y).toInt = a + b := by
  rw [Int32.toInt_add, hx, hy, tl_bm h1 h2]
theorem tl_subv {x y : Int32} {a b : Int} (hx : x.toInt = a) (hy : y.toInt = b) (h1 : -2147483648 ≤ a - b) (h2 : a - b < 2147483648) : (x - y).toInt = a - b := by
  rw [Int32.toInt_sub, hx, hy, tl_bm h1 h2]
theorem tl_dec (i : Nat) : nI i + Int32.ofInt (-1) = nI i - nI 1 := by
  rw [Int32.sub_eq_add_neg]
  rfl
theorem tl_predv {j : Nat} (h : j < 2 ^ 31) : (nI j - nI 1).toInt = (j : Int) - 1 := tl_subv (nI_toInt h) (by decide) (by omega) (by omega)
theorem tl_min {a b : Nat} (ha : a < 2 ^ 31) (hb : b < 2 ^ 31) : (if nI b < nI a then nI b else nI a) = nI (min a b) := by
  by_cases h : b < a
  · rw [if_pos (nI_lt h ha), Nat.min_eq_right (by omega)]
  · rw [if_neg (nI_nlt (by omega) hb), Nat.min_eq_left (by omega)]
theorem tl_clampv {x : Int32} {n : Nat} (hn : n < 2 ^ 31) : (if nI n < (if x < nI 0 then nI 0 else x) then nI n else (if x < nI 0 then nI 0 else x)) = nI (min x.toNatClampNeg n) := by
  have hx : x.toNatClampNeg = x.toInt.toNat := rfl
  have e : (if x < nI 0 then nI 0 else x) = nI x.toNatClampNeg := by
    by_cases h : x < nI 0
    · rw [if_pos h]
      rw [Int32.lt_iff_toInt_lt, show (nI 0).toInt = 0 by decide] at h
      rw [hx, show x.toInt.toNat = 0 by omega]
    · rw [if_neg h]
      rw [Int32.lt_iff_toInt_lt, show (nI 0).toInt = 0 by decide] at h
      have h2 := Int32.toInt_lt x
      apply Int32.toInt_inj.mp
      rw [nI_toInt (by omega)]
      omega
  rw [e]
  have h2 := Int32.toInt_lt x
  exact tl_min (by omega) hn
theorem tl_inc1 (j : Nat) : nI j + Int32.ofInt 1 = nI (j + 1) := by
  rw [show Int32.ofInt 1 = 1 from by decide]
  exact nI_1 j
end
section
/-! what a state is: the cells of an object of the class, and of the reference -/
abbrev at_X (dC : Nat → ClassId) (dI : Nat → Nat → Nat) (A : Nat → Prop) (h0 q0 q1 : Nat) (cA cB : ClassId) (u : tS) (t : State) : Prop := match u with
  | (n, T, k, G) => va_P (dC, dI) vwCl [(h0, .inr (0, [.ref q0, .ref q1, .int (nI n), .int (nI k)])), (q0, .inl (cA, 3000, .inl T)), (q1, .inl (cB, 40, .inl G))] t.heap ∧ va_K (dC, dI) vwCl [(cA, .int), (cB, .int)] t ∧ va_D A [(h0, .inr (0, [.ref q0, .ref q1, .int (nI n), .int (nI k)])), (q0, .inl (cA, 3000, .inl T)), (q1, .inl (cB, 40, .inl G))]
abbrev tM : Type := tS × (Nat → Int32) × Int32
abbrev at_M (dC : Nat → ClassId) (dI : Nat → Nat → Nat) (A : Nat → Prop) (h0 q0 q1 q2 : Nat) (cA cB cC : ClassId) (u : tM) (t : State) : Prop := match u with
  | ((n, T, k, G), E, d) => va_P (dC, dI) vwCl [(h0, .inr (1, [.ref q0, .ref q1, .ref q2, .int (nI n), .int (nI k), .int d])), (q0, .inl (cA, 3000, .inl T)), (q1, .inl (cB, 40, .inl G)), (q2, .inl (cC, 20, .inl E))] t.heap ∧ va_K (dC, dI) vwCl [(cA, .int), (cB, .int), (cC, .int)] t ∧ va_D A [(h0, .inr (1, [.ref q0, .ref q1, .ref q2, .int (nI n), .int (nI k), .int d])), (q0, .inl (cA, 3000, .inl T)), (q1, .inl (cB, 40, .inl G)), (q2, .inl (cC, 20, .inl E))]
end
section
/-! what stands in the heap from the start: the two text constants, the reference's two tables -/
def sK (a v N : Nat) (f : Nat → Int32) (A : Nat → Prop) (U : State) (H : Heap) : Prop := va_O "java/lang/String" a A U H ∧ va_OF "java/lang/String" "coder" "B" (.int 0) a A U H ∧ va_OF "java/lang/String" "value" "[B" (.ref v) a A U H ∧ va_T .byte v N (fun j => .int (f j)) A U H ∧ va_Z "java/lang/String" "COMPACT_STRINGS" "Z" (.int 1) A U H ∧ va_Zq "jdk/internal/util/Preconditions" "SIOOBE_FORMATTER" "Ljava/util/function/BiFunction;" A U H
def mK (tY tN : Nat) (A : Nat → Prop) (U : State) (H : Heap) : Prop := va_Z "TextLoomModel" "YES" "[I" (.ref tY) A U H ∧ va_T .int tY 4 (fun j => .int (tl_yes j)) A U H ∧ va_Z "TextLoomModel" "NO" "[I" (.ref tN) A U H ∧ va_T .int tN 5 (fun j => .int (tl_no j)) A U H
theorem sK_moved {a v N : Nat} {f : Nat → Int32} {A : Nat → Prop} {u U : State} {H : Heap} (hvm : u.vm.Alike U.vm) (h : sK a v N f A u H) : sK a v N f A U H := ⟨va_O.moved hvm h.1, va_OF.moved hvm h.2.1, va_OF.moved hvm h.2.2.1, va_T.moved hvm h.2.2.2.1, va_Z.moved hvm h.2.2.2.2.1, va_Zq.moved hvm h.2.2.2.2.2⟩
theorem mK_moved {tY tN : Nat} {A : Nat → Prop} {u U : State} {H : Heap} (hvm : u.vm.Alike U.vm) (h : mK tY tN A u H) : mK tY tN A U H := ⟨va_Z.moved hvm h.1, va_T.moved hvm h.2.1, va_Z.moved hvm h.2.2.1, va_T.moved hvm h.2.2.2⟩
theorem sK_at {a v N : Nat} {f : Nat → Int32} {A B : Nat → Prop} {s U : State} {H : Heap} {locs : List Loc} (h : sK a v N f A s s.heap) (hS : va_S A s.heap H locs) (hB : ∀ q, B q → A q) (hW : s.vm.Alike U.vm) (hU : U.heap = H) : sK a v N f B U U.heap := by
  rw [hU]
  exact sK_moved hW ⟨(h.1.kept hS.2.1).narrow hB, (h.2.1.kept hS.2.1).narrow hB, (h.2.2.1.kept hS.2.1).narrow hB, (h.2.2.2.1.kept hS.2.1).narrow hB, (h.2.2.2.2.1.kept hS.2.1).narrow hB, (h.2.2.2.2.2.kept hS.2.1).narrow hB⟩
theorem mK_at {tY tN : Nat} {A B : Nat → Prop} {s U : State} {H : Heap} {locs : List Loc} (h : mK tY tN A s s.heap) (hS : va_S A s.heap H locs) (hB : ∀ q, B q → A q) (hW : s.vm.Alike U.vm) (hU : U.heap = H) : mK tY tN B U U.heap := by
  rw [hU]
  exact mK_moved hW ⟨(h.1.kept hS.2.1).narrow hB, (h.2.1.kept hS.2.1).narrow hB, (h.2.2.1.kept hS.2.1).narrow hB, (h.2.2.2.kept hS.2.1).narrow hB⟩
def tl_chr (N : Nat) (f : Nat → Int32) : Prop := ∀ j, j < N → ((f j &&& nI 255).toUInt32 % 65536).toInt32 = f j ∧ narrow .char (.int (f j)) = .int (f j)
theorem tl_chr_yes : tl_chr 4 tl_yes := by
  intro j hj
  unfold tl_yes
  (repeat' split) <;> exact ⟨by decide, by decide⟩
theorem tl_chr_no : tl_chr 5 tl_no := by
  intro j hj
  unfold tl_no
  (repeat' split) <;> exact ⟨by decide, by decide⟩
theorem pu_puts {n a m j : Nat} {F T0 w : Nat → Int32} (hj : j < m) (hF : ∀ i, i < n - (a - a) + m → (i < a + j ∨ a + m ≤ i) → F i = tl_rep T0 a a w m i) : ∀ i, i < n - (a - a) + m → (i < a + (j + 1) ∨ a + m ≤ i) → upd F (a + j) (w j) i = tl_rep T0 a a w m i := by
  intro i hi h
  by_cases c : i = a + j
  · subst c
    rw [pk_us, tl_rep_in (i := j) rfl hj]
  · rw [pk_un c]
    exact hF i hi (by omega)
theorem pm_let0 {n m : Nat} {T T0 w : Nat → Int32} (hT : ∀ j, j < n → T j = T0 j) : ∀ i, i < n + m → (i < n + 0 ∨ n + m ≤ i) → T i = tl_rep T0 n n w m i := by
  intro i hi h
  unfold tl_rep
  rw [if_pos (by omega)]
  exact hT i (by omega)
theorem pm_sign {n : Nat} {T T0 : Nat → Int32} {y : Int32} (hT : ∀ j, j < n → T j = T0 j) : ∀ j, j < n + 1 → upd T n y j = tl_rep T0 n n (fun _ => y) 1 j := by
  intro j hj
  by_cases c : j = n
  · subst c
    rw [pk_us, tl_rep_in (a := j) (m := 1) (i := 0) (j := j) rfl (by omega)]
  · rw [pk_un c]
    unfold tl_rep
    rw [if_pos (by omega)]
    exact hT j (by omega)
/-- a text constant, out of what the Statement says of it -/
theorem tl_str {args : Array Value} {s : State} {A : Nat → Prop} (hA : ∀ a : Nat, a < s.heap.size → ¬ A a) (hCS : va_Z "java/lang/String" "COMPACT_STRINGS" "Z" (.int 1) A s s.heap) (hSI : va_Zq "jdk/internal/util/Preconditions" "SIOOBE_FORMATTER" "Ljava/util/function/BiFunction;" A s s.heap) (i N : Nat) (f : Nat → Int32) (hN : N < 2 ^ 31)
    (hex : (Cond.exactly (.string "TextLoom" i) "java/lang/String").before args s = true) (hco : (Cond.eq (.field (.string "TextLoom" i) "java/lang/String" "coder" "B") (.int 0)).before args s = true) (har : (Cond.arrayOf (.field (.string "TextLoom" i) "java/lang/String" "value" "[B") .byte).before args s = true)
    (hle : (Cond.eq (.length (.field (.string "TextLoom" i) "java/lang/String" "value" "[B")) (.int (Int32.ofNat N))).before args s = true) (hel : ∀ j, j < N → (Cond.eq (.elem (.field (.string "TextLoom" i) "java/lang/String" "value" "[B") (.int (Int32.ofNat j))) (.int (f j))).before args s = true) :
    ∃ a v : Nat, (Term.string "TextLoom" i).eval args s none [] s = some (.ref a) ∧ sK a v N f A s s.heap := by
  obtain ⟨a, c, cA, kA, q1, -⟩ := Cond.exactly_spec (args := args) (first := s) (o := none) (s := s) (idx := []) (t := .string "TextLoom" i) (cls := "java/lang/String") hex
  obtain ⟨v, q2, q3⟩ := va_Tof (tm := .field (.string "TextLoom" i) "java/lang/String" "value" "[B") (ty := .byte) (N := N) (f := fun j => .int (f j)) (A := A) hN har (va_eqt hle) (fun j hj => va_eqt (hel j hj)) hA
  exact ⟨a, v, q1, va_Oof hex q1 hA, vk_OFof q1 (va_eqt hco) hA, vk_OFof q1 q2 hA, q3, hCS, hSI⟩
end
section
set_option maxHeartbeats 4000000 in
set_option maxRecDepth 100000 in
theorem c_J_coder (l : Launch) (sa sv N : Nat) (f : Nat → Int32) (hN : N < 2 ^ 31) : Met l yJ0_coder_7d493 wsJ0_coder_7d493 ({ frames := 0, cells := 0, slots := 0, locals := 0 } : Room) (va_Pc [.ref sa] (fun U => sK sa sv N f (fun _ => False) U U.heap)) (vp_Si (fun r : Int32 => r = 0)) 0 0 (fun _ => False) := by
  refine Met.ofW (cc := cJ0_coder_7d493) (maxL := 1) (ret := (some .byte)) (by decide) rfl ?_
  intro p e s m args below meth c s₁ B hml hv
  obtain ⟨rfl, hO, hC, hV, hB8, hZ, hZq⟩ := hv
  have hx := B.exec
  have hb := B.bytes
  have hr := B.returns
  have hts := atoms_spec (ws := wsJ0_coder_7d493) B.pre
  have hown : s.vm.findClass RJ0 = some m.cls := findClass_of_methodNamed B.named
  have hlocks := B.notSynchronized
  have hSK : sK sa sv N f (fun _ => False) s s.heap := ⟨hO, hC, hV, hB8, hZ, hZq⟩
  have hS : va_S (fun _ => False) s.heap s.heap [] := va_S.rf
  have hl := lv_entry ([.ref sa]) (n := 1) (Nat.le_of_ble_eq_true rfl)
  rw [lg_entry_eq]
  generalize (lg_sl ([.ref sa]) ++ List.replicate (1 - (lg_sl ([.ref sa])).length) Slot.unset).toArray = ls at hl ⊢
  have hl : lv_has ls 1 [(0, .ref sa)] := hl
  refine tl_q (fun Q hQ => ?_)
  refine va_gets hx hb hZ hS hown (hts _ (List.mem_cons_of_mem _ k105)) (fun _ h9 => h9) dJ0_coder_7d493_0 ?_
  refine lv_if_eq (tgt := 13) hx hb dJ0_coder_7d493_3 rfl (fun h3 => ?_) (fun h3 => ?_)
  · skip
    have h3 := (tl_eq (show ((1 : Int32)).toInt = (1 : Int) from (by decide)) (show (0 : Int32).toInt = (0 : Int) from Int32.toInt_zero)).mp h3
    exfalso; omega
  · skip
    have h3 := (not_congr (tl_eq (show ((1 : Int32)).toInt = (1 : Int) from (by decide)) (show (0 : Int32).toInt = (0 : Int) from Int32.toInt_zero))).mp h3
    refine lv_aload_n hx hb dJ0_coder_7d493_6 rfl (lv_at hl 0 rfl) ?_
    refine vk_getf hx hb hC hS hown (hts _ (List.mem_cons_of_mem _ k373)) (fun _ h9 => h9) dJ0_coder_7d493_7 ?_
    refine lv_goto (tgt := 14) hx hb dJ0_coder_7d493_10 rfl ?_
    subst hQ
    exact W.zret (v := (0 : Int32)) hx hb hr (by decide) (fun t ht hW => ⟨(0 : Int32), rfl, rfl, ht⟩) (fun q h => absurd h List.not_mem_nil) dJ0_coder_7d493_14
set_option maxHeartbeats 4000000 in
set_option maxRecDepth 100000 in
theorem c_J_isLatin1 (l : Launch) (sa sv N : Nat) (f : Nat → Int32) (hN : N < 2 ^ 31) : Met l yJ0_isLatin1_aae02 wsJ0_isLatin1_aae02 ({ frames := 0, cells := 0, slots := 0, locals := 0 } : Room) (va_Pc [.ref sa] (fun U => sK sa sv N f (fun _ => False) U U.heap)) (vp_Si (fun r : Int32 => r = nI 1)) 0 0 (fun _ => False) := by
  refine Met.ofW (cc := cJ0_isLatin1_aae02) (maxL := 1) (ret := (some .boolean)) (by decide) rfl ?_
  intro p e s m args below meth c s₁ B hml hv
  obtain ⟨rfl, hO, hC, hV, hB8, hZ, hZq⟩ := hv
  have hx := B.exec
  have hb := B.bytes
  have hr := B.returns
  have hts := atoms_spec (ws := wsJ0_isLatin1_aae02) B.pre
  have hown : s.vm.findClass RJ0 = some m.cls := findClass_of_methodNamed B.named
  have hlocks := B.notSynchronized
  have hSK : sK sa sv N f (fun _ => False) s s.heap := ⟨hO, hC, hV, hB8, hZ, hZq⟩
  have hS : va_S (fun _ => False) s.heap s.heap [] := va_S.rf
  have hl := lv_entry ([.ref sa]) (n := 1) (Nat.le_of_ble_eq_true rfl)
  rw [lg_entry_eq]
  generalize (lg_sl ([.ref sa]) ++ List.replicate (1 - (lg_sl ([.ref sa])).length) Slot.unset).toArray = ls at hl ⊢
  have hl : lv_has ls 1 [(0, .ref sa)] := hl
  refine tl_q (fun Q hQ => ?_)
  refine va_gets hx hb hZ hS hown (hts _ (List.mem_cons_of_mem _ k105)) (fun _ h9 => h9) dJ0_isLatin1_aae02_0 ?_
  refine lv_if_eq (tgt := 17) hx hb dJ0_isLatin1_aae02_3 rfl (fun h3 => ?_) (fun h3 => ?_)
  · skip
    have h3 := (tl_eq (show ((1 : Int32)).toInt = (1 : Int) from (by decide)) (show (0 : Int32).toInt = (0 : Int) from Int32.toInt_zero)).mp h3
    exfalso; omega
  · skip
    have h3 := (not_congr (tl_eq (show ((1 : Int32)).toInt = (1 : Int) from (by decide)) (show (0 : Int32).toInt = (0 : Int) from Int32.toInt_zero))).mp h3
    refine lv_aload_n hx hb dJ0_isLatin1_aae02_6 rfl (lv_at hl 0 rfl) ?_
    refine vk_getf hx hb hC hS hown (hts _ (List.mem_cons_of_mem _ k373)) (fun _ h9 => h9) dJ0_isLatin1_aae02_7 ?_
    refine lv_if_ne (tgt := 17) hx hb dJ0_isLatin1_aae02_10 rfl (fun h10 => ?_) (fun h10 => ?_)
    · skip
      have h10 := (not_congr (tl_eq (show ((0 : Int32)).toInt = (0 : Int) from (by decide)) (show (0 : Int32).toInt = (0 : Int) from Int32.toInt_zero))).mp h10
      exfalso; omega
    · skip
      have h10 := (tl_eq (show ((0 : Int32)).toInt = (0 : Int) from (by decide)) (show (0 : Int32).toInt = (0 : Int) from Int32.toInt_zero)).mp h10
      refine lv_iconst (v := nI 1) hx hb dJ0_isLatin1_aae02_13 (by decide) ?_
      refine lv_goto (tgt := 18) hx hb dJ0_isLatin1_aae02_14 rfl ?_
      subst hQ
      exact W.zret (v := nI 1) hx hb hr (by decide) (fun t ht hW => ⟨nI 1, rfl, rfl, ht⟩) (fun q h => absurd h List.not_mem_nil) dJ0_isLatin1_aae02_18
set_option maxHeartbeats 4000000 in
set_option maxRecDepth 100000 in
theorem c_J_length (l : Launch) (sa sv N : Nat) (f : Nat → Int32) (hN : N < 2 ^ 31) : Met l yJ0_length_8abf5 wsJ0_length_8abf5 ({ frames := 1, cells := 0, slots := 0, locals := 20 } : Room) (va_Pc [.ref sa] (fun U => sK sa sv N f (fun _ => False) U U.heap)) (vp_Si (fun r : Int32 => r = nI N)) 0 0 (fun _ => False) := by
  refine Met.ofW (cc := cJ0_length_8abf5) (maxL := 1) (ret := (some .int)) (by decide) rfl ?_
  intro p e s m args below meth c s₁ B hml hv
  obtain ⟨rfl, hO, hC, hV, hB8, hZ, hZq⟩ := hv
  have hx := B.exec
  have hb := B.bytes
  have hr := B.returns
  have hts := atoms_spec (ws := wsJ0_length_8abf5) B.pre
  have hown : s.vm.findClass RJ0 = some m.cls := findClass_of_methodNamed B.named
  have hlocks := B.notSynchronized
  have hSK : sK sa sv N f (fun _ => False) s s.heap := ⟨hO, hC, hV, hB8, hZ, hZq⟩
  have hS : va_S (fun _ => False) s.heap s.heap [] := va_S.rf
  have hl := lv_entry ([.ref sa]) (n := 1) (Nat.le_of_ble_eq_true rfl)
  rw [lg_entry_eq]
  generalize (lg_sl ([.ref sa]) ++ List.replicate (1 - (lg_sl ([.ref sa])).length) Slot.unset).toArray = ls at hl ⊢
  have hl : lv_has ls 1 [(0, .ref sa)] := hl
  refine tl_q (fun Q hQ => ?_)
  refine lv_aload_n hx hb dJ0_length_8abf5_0 rfl (lv_at hl 0 rfl) ?_
  refine vk_getf hx hb hV hS hown (hts _ (List.mem_cons_of_mem _ k372)) (fun _ h9 => h9) dJ0_length_8abf5_1 ?_
  refine va_tlen (v := nI N) hx hb hB8 hS rfl dJ0_length_8abf5_4 ?_
  refine lv_aload_n hx hb dJ0_length_8abf5_5 rfl (lv_at hl 0 rfl) ?_
  refine vp_callSi ((va_runV (As := []) (rest := [.int (nI N)]) ⟨hx, hb, hml, hown, hts⟩ (c_J_coder l sa sv N f hN) (cwV 0 hts (gV_ (fun w h => List.mem_cons_of_mem _ h) k101 k102 k103 k25 k104) rfl rfl rfl (by decide +kernel) ⟨Nat.le_of_ble_eq_true rfl, Nat.le_of_ble_eq_true rfl⟩) ⟨fun a U g mk q => by obtain ⟨q0, qS⟩ := q; exact ⟨q0, sK_moved (u := U) (U := U.calling g mk a) (Vm.Alike.refl U.vm) qS⟩, va_Orecv hSK.1 hS, fun U hU hW => ⟨rfl, sK_at hSK hS (fun q h => h.elim) hW.alike hU⟩⟩ rfl rfl hl.1 rfl (lv_room (Nat.le_of_ble_eq_true rfl)) dJ0_length_8abf5_6 ⟨Nat.le_of_ble_eq_true rfl, Nat.le_of_ble_eq_true rfl⟩).run) (fun r6 w6 => ?_)
  try dsimp only at w6
  subst w6
  refine lv_ishr hx hb dJ0_length_8abf5_9 ?_
  refine tl_top (y := nI N) (sc_shr0 hN) ?_
  subst hQ
  exact W.iret (v := nI N) hx hb hr (fun t ht hW => ⟨nI N, rfl, rfl, ht⟩) (fun q h => absurd h List.not_mem_nil) dJ0_length_8abf5_10
set_option maxHeartbeats 4000000 in
set_option maxRecDepth 100000 in
theorem c_J3_ckN (l : Launch) (j N : Nat) (hN : N < 2 ^ 31) (hj : j < N) : Met l yJ3_checkIndex_8e157 wsJ3_checkIndex_8e157 ({ frames := 0, cells := 0, slots := 0, locals := 0 } : Room) (va_Pc [.int (nI j), .int (nI N), .null] (fun _ => True)) (vp_Si (fun r : Int32 => r = nI j)) 0 0 (fun _ => False) := by
  refine Met.ofW (cc := cJ3_checkIndex_8e157) (maxL := 3) (ret := (some .int)) (by decide) rfl ?_
  intro p e s m args below meth c s₁ B hml hv
  obtain ⟨rfl, -⟩ := hv
  have hx := B.exec
  have hb := B.bytes
  have hr := B.returns
  have hts := atoms_spec (ws := wsJ3_checkIndex_8e157) B.pre
  have hown : s.vm.findClass RJ3 = some m.cls := findClass_of_methodNamed B.named
  have hlocks := B.notSynchronized
  have hl := lv_entry ([.int (nI j), .int (nI N), .null]) (n := 3) (Nat.le_of_ble_eq_true rfl)
  rw [lg_entry_eq]
  generalize (lg_sl ([.int (nI j), .int (nI N), .null]) ++ List.replicate (3 - (lg_sl ([.int (nI j), .int (nI N), .null])).length) Slot.unset).toArray = ls at hl ⊢
  have hl : lv_has ls 3 [(0, .int (nI j)), (1, .int (nI N)), (2, .null)] := hl
  refine tl_q (fun Q hQ => ?_)
  refine lv_iload_n hx hb dJ3_checkIndex_8e157_0 rfl (lv_at hl 0 rfl) ?_
  refine lv_if_lt (tgt := 9) hx hb dJ3_checkIndex_8e157_1 rfl (fun h1 => ?_) (fun h1 => ?_)
  · skip
    have h1 := (tl_lt (show (nI j).toInt = ((j : Nat) : Int) from (nI_toInt (by omega))) (show (0 : Int32).toInt = (0 : Int) from Int32.toInt_zero)).mp h1
    exfalso; omega
  · skip
    have h1 := (not_congr (tl_lt (show (nI j).toInt = ((j : Nat) : Int) from (nI_toInt (by omega))) (show (0 : Int32).toInt = (0 : Int) from Int32.toInt_zero))).mp h1
    refine lv_iload_n hx hb dJ3_checkIndex_8e157_4 rfl (lv_at hl 0 rfl) ?_
    refine lv_iload_n hx hb dJ3_checkIndex_8e157_5 rfl (lv_at hl 1 rfl) ?_
    refine lv_icmp_lt (tgt := 16) hx hb dJ3_checkIndex_8e157_6 rfl (fun h6 => ?_) (fun h6 => ?_)
    · skip
      have h6 := (tl_lt (show (nI j).toInt = ((j : Nat) : Int) from (nI_toInt (by omega))) (show (nI N).toInt = ((N : Nat) : Int) from (nI_toInt (by omega)))).mp h6
      refine lv_iload_n hx hb dJ3_checkIndex_8e157_16 rfl (lv_at hl 0 rfl) ?_
      subst hQ
      exact W.iret (v := nI j) hx hb hr (fun t ht hW => ⟨nI j, rfl, rfl, ht⟩) (fun q h => absurd h List.not_mem_nil) dJ3_checkIndex_8e157_17
    · skip
      have h6 := (not_congr (tl_lt (show (nI j).toInt = ((j : Nat) : Int) from (nI_toInt (by omega))) (show (nI N).toInt = ((N : Nat) : Int) from (nI_toInt (by omega))))).mp h6
      exfalso; omega
set_option maxHeartbeats 4000000 in
set_option maxRecDepth 100000 in
theorem c_J3_ckR (l : Launch) (j N : Nat) (hN : N < 2 ^ 31) (hj : j < N) (zt : Nat) : Met l yJ3_checkIndex_8e157 wsJ3_checkIndex_8e157 ({ frames := 0, cells := 0, slots := 0, locals := 0 } : Room) (va_Pc [.int (nI j), .int (nI N), .ref zt] (fun _ => True)) (vp_Si (fun r : Int32 => r = nI j)) 0 0 (fun _ => False) := by
  refine Met.ofW (cc := cJ3_checkIndex_8e157) (maxL := 3) (ret := (some .int)) (by decide) rfl ?_
  intro p e s m args below meth c s₁ B hml hv
  obtain ⟨rfl, -⟩ := hv
  have hx := B.exec
  have hb := B.bytes
  have hr := B.returns
  have hts := atoms_spec (ws := wsJ3_checkIndex_8e157) B.pre
  have hown : s.vm.findClass RJ3 = some m.cls := findClass_of_methodNamed B.named
  have hlocks := B.notSynchronized
  have hl := lv_entry ([.int (nI j), .int (nI N), .ref zt]) (n := 3) (Nat.le_of_ble_eq_true rfl)
  rw [lg_entry_eq]
  generalize (lg_sl ([.int (nI j), .int (nI N), .ref zt]) ++ List.replicate (3 - (lg_sl ([.int (nI j), .int (nI N), .ref zt])).length) Slot.unset).toArray = ls at hl ⊢
  have hl : lv_has ls 3 [(0, .int (nI j)), (1, .int (nI N)), (2, .ref zt)] := hl
  refine tl_q (fun Q hQ => ?_)
  refine lv_iload_n hx hb dJ3_checkIndex_8e157_0 rfl (lv_at hl 0 rfl) ?_
  refine lv_if_lt (tgt := 9) hx hb dJ3_checkIndex_8e157_1 rfl (fun h1 => ?_) (fun h1 => ?_)
  · skip
    have h1 := (tl_lt (show (nI j).toInt = ((j : Nat) : Int) from (nI_toInt (by omega))) (show (0 : Int32).toInt = (0 : Int) from Int32.toInt_zero)).mp h1
    exfalso; omega
  · skip
    have h1 := (not_congr (tl_lt (show (nI j).toInt = ((j : Nat) : Int) from (nI_toInt (by omega))) (show (0 : Int32).toInt = (0 : Int) from Int32.toInt_zero))).mp h1
    refine lv_iload_n hx hb dJ3_checkIndex_8e157_4 rfl (lv_at hl 0 rfl) ?_
    refine lv_iload_n hx hb dJ3_checkIndex_8e157_5 rfl (lv_at hl 1 rfl) ?_
    refine lv_icmp_lt (tgt := 16) hx hb dJ3_checkIndex_8e157_6 rfl (fun h6 => ?_) (fun h6 => ?_)
    · skip
      have h6 := (tl_lt (show (nI j).toInt = ((j : Nat) : Int) from (nI_toInt (by omega))) (show (nI N).toInt = ((N : Nat) : Int) from (nI_toInt (by omega)))).mp h6
      refine lv_iload_n hx hb dJ3_checkIndex_8e157_16 rfl (lv_at hl 0 rfl) ?_
      subst hQ
      exact W.iret (v := nI j) hx hb hr (fun t ht hW => ⟨nI j, rfl, rfl, ht⟩) (fun q h => absurd h List.not_mem_nil) dJ3_checkIndex_8e157_17
    · skip
      have h6 := (not_congr (tl_lt (show (nI j).toInt = ((j : Nat) : Int) from (nI_toInt (by omega))) (show (nI N).toInt = ((N : Nat) : Int) from (nI_toInt (by omega))))).mp h6
      exfalso; omega
set_option maxHeartbeats 4000000 in
set_option maxRecDepth 100000 in
theorem c_J_ck (l : Launch) (j N : Nat) (hN : N < 2 ^ 31) (hj : j < N) : Met l yJ0_checkIndex_df160 wsJ0_checkIndex_df160 ({ frames := 1, cells := 0, slots := 0, locals := 22 } : Room) (va_Pc [.int (nI j), .int (nI N)] (fun U => va_Zq "jdk/internal/util/Preconditions" "SIOOBE_FORMATTER" "Ljava/util/function/BiFunction;" (fun _ => False) U U.heap)) (va_Sv (fun _ => True)) 0 0 (fun _ => False) := by
  refine Met.ofW (cc := cJ0_checkIndex_df160) (maxL := 2) (ret := none) (by decide) rfl ?_
  intro p e s m args below meth c s₁ B hml hv
  obtain ⟨rfl, hZq⟩ := hv
  have hx := B.exec
  have hb := B.bytes
  have hr := B.returns
  have hts := atoms_spec (ws := wsJ0_checkIndex_df160) B.pre
  have hown : s.vm.findClass RJ0 = some m.cls := findClass_of_methodNamed B.named
  have hlocks := B.notSynchronized
  have hS : va_S (fun _ => False) s.heap s.heap [] := va_S.rf
  have hl := lv_entry ([.int (nI j), .int (nI N)]) (n := 2) (Nat.le_of_ble_eq_true rfl)
  rw [lg_entry_eq]
  generalize (lg_sl ([.int (nI j), .int (nI N)]) ++ List.replicate (2 - (lg_sl ([.int (nI j), .int (nI N)])).length) Slot.unset).toArray = ls at hl ⊢
  have hl : lv_has ls 2 [(0, .int (nI j)), (1, .int (nI N))] := hl
  refine tl_q (fun Q hQ => ?_)
  refine lv_iload_n hx hb dJ0_checkIndex_df160_0 rfl (lv_at hl 0 rfl) ?_
  refine lv_iload_n hx hb dJ0_checkIndex_df160_1 rfl (lv_at hl 1 rfl) ?_
  rcases hZq with hz | ⟨zt, hz⟩
  · skip
    refine va_gets hx hb hz hS hown (hts _ (List.mem_cons_of_mem _ k121)) (fun _ h9 => h9) dJ0_checkIndex_df160_2 ?_
    refine vp_callSi ((va_runS (As := [.int (nI j), .int (nI N), .null]) (rest := []) ⟨hx, hb, hml, hown, hts⟩ (c_J3_ckN l j N hN hj) (va_cwS 3 hts (gS_ (fun w h => List.mem_cons_of_mem _ h) k123 k124 k27 k125) rfl rfl rfl (by decide +kernel) ⟨Nat.le_of_ble_eq_true rfl, Nat.le_of_ble_eq_true rfl⟩) ⟨fun a U g mk q => q, fun U hU hW => ⟨rfl, trivial⟩⟩ rfl rfl hl.1 rfl (lv_room (Nat.le_of_ble_eq_true rfl)) dJ0_checkIndex_df160_5 ⟨Nat.le_of_ble_eq_true rfl, Nat.le_of_ble_eq_true rfl⟩).run) (fun r5 w5 => ?_)
    refine lv_pop hx hb dJ0_checkIndex_df160_8 rfl ?_
    subst hQ
    exact W.vret hx hb hr (fun t ht hW => ⟨rfl, trivial, ht⟩) (fun q h => absurd h List.not_mem_nil) dJ0_checkIndex_df160_9
  · skip
    refine va_gets hx hb hz hS hown (hts _ (List.mem_cons_of_mem _ k121)) (fun _ h9 => h9) dJ0_checkIndex_df160_2 ?_
    refine vp_callSi ((va_runS (As := [.int (nI j), .int (nI N), .ref zt]) (rest := []) ⟨hx, hb, hml, hown, hts⟩ (c_J3_ckR l j N hN hj zt) (va_cwS 3 hts (gS_ (fun w h => List.mem_cons_of_mem _ h) k123 k124 k27 k125) rfl rfl rfl (by decide +kernel) ⟨Nat.le_of_ble_eq_true rfl, Nat.le_of_ble_eq_true rfl⟩) ⟨fun a U g mk q => q, fun U hU hW => ⟨rfl, trivial⟩⟩ rfl rfl hl.1 rfl (lv_room (Nat.le_of_ble_eq_true rfl)) dJ0_checkIndex_df160_5 ⟨Nat.le_of_ble_eq_true rfl, Nat.le_of_ble_eq_true rfl⟩).run) (fun r5 w5 => ?_)
    refine lv_pop hx hb dJ0_checkIndex_df160_8 rfl ?_
    subst hQ
    exact W.vret hx hb hr (fun t ht hW => ⟨rfl, trivial, ht⟩) (fun q h => absurd h List.not_mem_nil) dJ0_checkIndex_df160_9
set_option maxHeartbeats 4000000 in
set_option maxRecDepth 100000 in
theorem c_J1_charAt (l : Launch) (sa sv N : Nat) (f : Nat → Int32) (hN : N < 2 ^ 31) (hch : tl_chr N f) (j : Nat) (hj : j < N) : Met l yJ1_charAt_3b067 wsJ1_charAt_3b067 ({ frames := 2, cells := 0, slots := 0, locals := 43 } : Room) (va_Pc [.ref sv, .int (nI j)] (fun U => sK sa sv N f (fun _ => False) U U.heap)) (vp_Si (fun r : Int32 => r = f j)) 0 0 (fun _ => False) := by
  refine Met.ofW (cc := cJ1_charAt_3b067) (maxL := 2) (ret := (some .char)) (by decide) rfl ?_
  intro p e s m args below meth c s₁ B hml hv
  obtain ⟨rfl, hO, hC, hV, hB8, hZ, hZq⟩ := hv
  have hx := B.exec
  have hb := B.bytes
  have hr := B.returns
  have hts := atoms_spec (ws := wsJ1_charAt_3b067) B.pre
  have hown : s.vm.findClass RJ1 = some m.cls := findClass_of_methodNamed B.named
  have hlocks := B.notSynchronized
  have hSK : sK sa sv N f (fun _ => False) s s.heap := ⟨hO, hC, hV, hB8, hZ, hZq⟩
  have hS : va_S (fun _ => False) s.heap s.heap [] := va_S.rf
  have hl := lv_entry ([.ref sv, .int (nI j)]) (n := 2) (Nat.le_of_ble_eq_true rfl)
  rw [lg_entry_eq]
  generalize (lg_sl ([.ref sv, .int (nI j)]) ++ List.replicate (2 - (lg_sl ([.ref sv, .int (nI j)])).length) Slot.unset).toArray = ls at hl ⊢
  have hl : lv_has ls 2 [(0, .ref sv), (1, .int (nI j))] := hl
  refine tl_q (fun Q hQ => ?_)
  refine lv_iload_n hx hb dJ1_charAt_3b067_0 rfl (lv_at hl 1 rfl) ?_
  refine lv_aload_n hx hb dJ1_charAt_3b067_1 rfl (lv_at hl 0 rfl) ?_
  refine va_tlen (v := nI N) hx hb hB8 hS rfl dJ1_charAt_3b067_2 ?_
  refine va_csv ((va_runS (As := [.int (nI j), .int (nI N)]) (rest := []) ⟨hx, hb, hml, hown, hts⟩ (c_J_ck l j N hN hj) (va_cwS 2 hts (gS_ (fun w h => List.mem_cons_of_mem _ h) k118 k119 k25 k120) rfl rfl rfl (by decide +kernel) ⟨Nat.le_of_ble_eq_true rfl, Nat.le_of_ble_eq_true rfl⟩) ⟨fun a U g mk q => by obtain ⟨q0, qS⟩ := q; exact ⟨q0, va_Zq.moved (u := U) (U := U.calling g mk a) (Vm.Alike.refl U.vm) qS⟩, fun U hU hW => ⟨rfl, by dsimp only; rw [hU]; exact va_Zq.moved hW.alike hZq⟩⟩ rfl rfl hl.1 rfl (lv_room (Nat.le_of_ble_eq_true rfl)) dJ1_charAt_3b067_3 ⟨Nat.le_of_ble_eq_true rfl, Nat.le_of_ble_eq_true rfl⟩).run) (fun _ => ?_)
  refine lv_aload_n hx hb dJ1_charAt_3b067_6 rfl (lv_at hl 0 rfl) ?_
  refine lv_iload_n hx hb dJ1_charAt_3b067_7 rfl (lv_at hl 1 rfl) ?_
  refine va_tb (v := .int (f j)) hx hb hB8 hS (vp_in_nI (by omega) (by omega)) (by rw [nI_clamp (by omega)]) dJ1_charAt_3b067_8 ?_
  refine lv_sipush (v := nI 255) hx hb dJ1_charAt_3b067_9 (by decide) ?_
  refine lv_iand hx hb dJ1_charAt_3b067_12 ?_
  refine lv_i2c hx hb dJ1_charAt_3b067_13 rfl ?_
  refine tl_top (y := f j) ((hch j hj).1) ?_
  subst hQ
  exact W.zret (v := f j) hx hb hr (hch j hj).2 (fun t ht hW => ⟨f j, rfl, rfl, ht⟩) (fun q h => absurd h List.not_mem_nil) dJ1_charAt_3b067_14
set_option maxHeartbeats 4000000 in
set_option maxRecDepth 100000 in
theorem c_J_charAt (l : Launch) (sa sv N : Nat) (f : Nat → Int32) (hN : N < 2 ^ 31) (hch : tl_chr N f) (j : Nat) (hj : j < N) : Met l yJ0_charAt_5068e wsJ0_charAt_5068e ({ frames := 3, cells := 0, slots := 0, locals := 64 } : Room) (va_Pc [.ref sa, .int (nI j)] (fun U => sK sa sv N f (fun _ => False) U U.heap)) (vp_Si (fun r : Int32 => r = f j)) 0 0 (fun _ => False) := by
  refine Met.ofW (cc := cJ0_charAt_5068e) (maxL := 2) (ret := (some .char)) (by decide) rfl ?_
  intro p e s m args below meth c s₁ B hml hv
  obtain ⟨rfl, hO, hC, hV, hB8, hZ, hZq⟩ := hv
  have hx := B.exec
  have hb := B.bytes
  have hr := B.returns
  have hts := atoms_spec (ws := wsJ0_charAt_5068e) B.pre
  have hown : s.vm.findClass RJ0 = some m.cls := findClass_of_methodNamed B.named
  have hlocks := B.notSynchronized
  have hSK : sK sa sv N f (fun _ => False) s s.heap := ⟨hO, hC, hV, hB8, hZ, hZq⟩
  have hS : va_S (fun _ => False) s.heap s.heap [] := va_S.rf
  have hl := lv_entry ([.ref sa, .int (nI j)]) (n := 2) (Nat.le_of_ble_eq_true rfl)
  rw [lg_entry_eq]
  generalize (lg_sl ([.ref sa, .int (nI j)]) ++ List.replicate (2 - (lg_sl ([.ref sa, .int (nI j)])).length) Slot.unset).toArray = ls at hl ⊢
  have hl : lv_has ls 2 [(0, .ref sa), (1, .int (nI j))] := hl
  refine tl_q (fun Q hQ => ?_)
  refine lv_aload_n hx hb dJ0_charAt_5068e_0 rfl (lv_at hl 0 rfl) ?_
  refine vp_callSi ((va_runV (As := []) (rest := []) ⟨hx, hb, hml, hown, hts⟩ (c_J_isLatin1 l sa sv N f hN) (cwV 0 hts (gV_ (fun w h => List.mem_cons_of_mem _ h) k111 k112 k113 k25 k114) rfl rfl rfl (by decide +kernel) ⟨Nat.le_of_ble_eq_true rfl, Nat.le_of_ble_eq_true rfl⟩) ⟨fun a U g mk q => by obtain ⟨q0, qS⟩ := q; exact ⟨q0, sK_moved (u := U) (U := U.calling g mk a) (Vm.Alike.refl U.vm) qS⟩, va_Orecv hSK.1 hS, fun U hU hW => ⟨rfl, sK_at hSK hS (fun q h => h.elim) hW.alike hU⟩⟩ rfl rfl hl.1 rfl (lv_room (Nat.le_of_ble_eq_true rfl)) dJ0_charAt_5068e_1 ⟨Nat.le_of_ble_eq_true rfl, Nat.le_of_ble_eq_true rfl⟩).run) (fun r1 w1 => ?_)
  try dsimp only at w1
  subst w1
  refine lv_if_eq (tgt := 16) hx hb dJ0_charAt_5068e_4 rfl (fun h4 => ?_) (fun h4 => ?_)
  · skip
    have h4 := (tl_eq (show (nI 1).toInt = ((1 : Nat) : Int) from (nI_toInt (by omega))) (show (0 : Int32).toInt = (0 : Int) from Int32.toInt_zero)).mp h4
    exfalso; omega
  · skip
    have h4 := (not_congr (tl_eq (show (nI 1).toInt = ((1 : Nat) : Int) from (nI_toInt (by omega))) (show (0 : Int32).toInt = (0 : Int) from Int32.toInt_zero))).mp h4
    refine lv_aload_n hx hb dJ0_charAt_5068e_7 rfl (lv_at hl 0 rfl) ?_
    refine vk_getf hx hb hV hS hown (hts _ (List.mem_cons_of_mem _ k372)) (fun _ h9 => h9) dJ0_charAt_5068e_8 ?_
    refine lv_iload_n hx hb dJ0_charAt_5068e_11 rfl (lv_at hl 1 rfl) ?_
    refine vp_callSi ((va_runS (As := [.ref sv, .int (nI j)]) (rest := []) ⟨hx, hb, hml, hown, hts⟩ (c_J1_charAt l sa sv N f hN hch j hj) (va_cwS 2 hts (gS_ (fun w h => List.mem_cons_of_mem _ h) k115 k116 k26 k117) rfl rfl rfl (by decide +kernel) ⟨Nat.le_of_ble_eq_true rfl, Nat.le_of_ble_eq_true rfl⟩) ⟨fun a U g mk q => by obtain ⟨q0, qS⟩ := q; exact ⟨q0, sK_moved (u := U) (U := U.calling g mk a) (Vm.Alike.refl U.vm) qS⟩, fun U hU hW => ⟨rfl, sK_at hSK hS (fun q h => h.elim) hW.alike hU⟩⟩ rfl rfl hl.1 rfl (lv_room (Nat.le_of_ble_eq_true rfl)) dJ0_charAt_5068e_12 ⟨Nat.le_of_ble_eq_true rfl, Nat.le_of_ble_eq_true rfl⟩).run) (fun r12 w12 => ?_)
    try dsimp only at w12
    subst w12
    subst hQ
    exact W.zret (v := f j) hx hb hr (hch j hj).2 (fun t ht hW => ⟨f j, rfl, rfl, ht⟩) (fun q h => absurd h List.not_mem_nil) dJ0_charAt_5068e_15
end
section
set_option maxHeartbeats 4000000 in
set_option maxRecDepth 100000 in
theorem c_X_order (l : Launch) (x y : Int32) : Met l yX0_order wsX0_order ({ frames := 0, cells := 0, slots := 0, locals := 0 } : Room) (va_Pc [.int x, .int y] (fun _ => True)) (vp_Si (fun r : Int32 => r = (if x.toInt = y.toInt then 0 else if x.toInt < y.toInt then -1 else 1))) 0 0 (fun _ => False) := by
  refine Met.ofW (cc := cX0_order) (maxL := 2) (ret := (some .int)) (by decide) rfl ?_
  intro p e s m args below meth c s₁ B hml hv
  obtain ⟨rfl, -⟩ := hv
  have hx := B.exec
  have hb := B.bytes
  have hr := B.returns
  have hts := atoms_spec (ws := wsX0_order) B.pre
  have hown : s.vm.findClass RX0 = some m.cls := findClass_of_methodNamed B.named
  have hlocks := B.notSynchronized
  have hl := lv_entry ([.int x, .int y]) (n := 2) (Nat.le_of_ble_eq_true rfl)
  rw [lg_entry_eq]
  generalize (lg_sl ([.int x, .int y]) ++ List.replicate (2 - (lg_sl ([.int x, .int y])).length) Slot.unset).toArray = ls at hl ⊢
  have hl : lv_has ls 2 [(0, .int x), (1, .int y)] := hl
  refine tl_q (fun Q hQ => ?_)
  refine lv_iload_n hx hb dX0_order_0 rfl (lv_at hl 0 rfl) ?_
  refine lv_iload_n hx hb dX0_order_1 rfl (lv_at hl 1 rfl) ?_
  refine lv_icmp_ne (tgt := 7) hx hb dX0_order_2 rfl (fun h2 => ?_) (fun h2 => ?_)
  · skip
    have h2 := (not_congr (tl_eq (show x.toInt = x.toInt from rfl) (show y.toInt = y.toInt from rfl))).mp h2
    refine lv_iload_n hx hb dX0_order_7 rfl (lv_at hl 0 rfl) ?_
    refine lv_iload_n hx hb dX0_order_8 rfl (lv_at hl 1 rfl) ?_
    refine lv_icmp_ge (tgt := 16) hx hb dX0_order_9 rfl (fun h9 => ?_) (fun h9 => ?_)
    · skip
      have h9 := (tl_le (show y.toInt = y.toInt from rfl) (show x.toInt = x.toInt from rfl)).mp h9
      refine lv_iconst (v := nI 1) hx hb dX0_order_16 (by decide) ?_
      subst hQ
      exact W.iret (v := nI 1) hx hb hr (fun t ht hW => ⟨nI 1, rfl, (by (repeat' split) <;> first | rfl | (exfalso; omega)), ht⟩) (fun q h => absurd h List.not_mem_nil) dX0_order_17
    · skip
      have h9 := (not_congr (tl_le (show y.toInt = y.toInt from rfl) (show x.toInt = x.toInt from rfl))).mp h9
      refine lv_iconst (v := (-1 : Int32)) hx hb dX0_order_12 (by decide) ?_
      refine lv_goto (tgt := 17) hx hb dX0_order_13 rfl ?_
      subst hQ
      exact W.iret (v := (-1 : Int32)) hx hb hr (fun t ht hW => ⟨(-1 : Int32), rfl, (by (repeat' split) <;> first | rfl | (exfalso; omega)), ht⟩) (fun q h => absurd h List.not_mem_nil) dX0_order_17
  · skip
    have h2 := (tl_eq (show x.toInt = x.toInt from rfl) (show y.toInt = y.toInt from rfl)).mp h2
    refine lv_iconst (v := nI 0) hx hb dX0_order_5 (by decide) ?_
    subst hQ
    exact W.iret (v := nI 0) hx hb hr (fun t ht hW => ⟨nI 0, rfl, (by (repeat' split) <;> first | rfl | (exfalso; omega)), ht⟩) (fun q h => absurd h List.not_mem_nil) dX0_order_6
set_option maxHeartbeats 4000000 in
set_option maxRecDepth 100000 in
theorem c_X_isSign (l : Launch) (x : Int64) : Met l yX0_isSign wsX0_isSign ({ frames := 0, cells := 0, slots := 0, locals := 0 } : Room) (va_Pc [.long x] (fun _ => True)) (vp_Si (fun r : Int32 => (r = 1 ∧ (0 ≤ x.toInt ∧ x.toInt ≤ 65535 ∧ (x.toInt < 55296 ∨ 57343 < x.toInt))) ∨ (r = 0 ∧ ¬ (0 ≤ x.toInt ∧ x.toInt ≤ 65535 ∧ (x.toInt < 55296 ∨ 57343 < x.toInt))))) 0 0 (fun _ => False) := by
  refine Met.ofW (cc := cX0_isSign) (maxL := 2) (ret := (some .boolean)) (by decide) rfl ?_
  intro p e s m args below meth c s₁ B hml hv
  obtain ⟨rfl, -⟩ := hv
  have hx := B.exec
  have hb := B.bytes
  have hr := B.returns
  have hts := atoms_spec (ws := wsX0_isSign) B.pre
  have hown : s.vm.findClass RX0 = some m.cls := findClass_of_methodNamed B.named
  have hlocks := B.notSynchronized
  have hl := lv_entry ([.long x]) (n := 2) (Nat.le_of_ble_eq_true rfl)
  rw [lg_entry_eq]
  generalize (lg_sl ([.long x]) ++ List.replicate (2 - (lg_sl ([.long x])).length) Slot.unset).toArray = ls at hl ⊢
  have hl : lv_has ls 2 [(0, .long x)] := hl
  refine tl_q (fun Q hQ => ?_)
  refine lv_lload_n hx hb dX0_isSign_0 rfl (lv_at hl 0 rfl) ?_
  refine lv_lconst (v := (0 : Int64)) hx hb dX0_isSign_1 (by decide) ?_
  refine W.lcmp hx hb dX0_isSign_2 ?_
  refine lv_if_lt (tgt := 34) hx hb dX0_isSign_3 rfl (fun h3 => ?_) (fun h3 => ?_)
  · skip
    have h3 := (tl_llt (show x.toInt = x.toInt from rfl) (show ((0 : Int64)).toInt = (0 : Int) from (by decide))).mp h3
    refine lv_iconst (v := nI 0) hx hb dX0_isSign_34 (by decide) ?_
    subst hQ
    exact W.zret (v := nI 0) hx hb hr (by decide) (fun t ht hW => ⟨nI 0, rfl, (Or.inr ⟨by decide, by omega⟩), ht⟩) (fun q h => absurd h List.not_mem_nil) dX0_isSign_35
  · skip
    have h3 := (not_congr (tl_llt (show x.toInt = x.toInt from rfl) (show ((0 : Int64)).toInt = (0 : Int) from (by decide)))).mp h3
    refine lv_lload_n hx hb dX0_isSign_6 rfl (lv_at hl 0 rfl) ?_
    refine lv_ldc2 (v := (65536 : Int64)) hx hb hown (hts _ (List.mem_cons_of_mem _ k58)) dX0_isSign_7 ?_
    refine W.lcmp hx hb dX0_isSign_10 ?_
    refine lv_if_ge (tgt := 34) hx hb dX0_isSign_11 rfl (fun h11 => ?_) (fun h11 => ?_)
    · skip
      have h11 := (tl_lge (show x.toInt = x.toInt from rfl) (show ((65536 : Int64)).toInt = (65536 : Int) from (by decide))).mp h11
      refine lv_iconst (v := nI 0) hx hb dX0_isSign_34 (by decide) ?_
      subst hQ
      exact W.zret (v := nI 0) hx hb hr (by decide) (fun t ht hW => ⟨nI 0, rfl, (Or.inr ⟨by decide, by omega⟩), ht⟩) (fun q h => absurd h List.not_mem_nil) dX0_isSign_35
    · skip
      have h11 := (not_congr (tl_lge (show x.toInt = x.toInt from rfl) (show ((65536 : Int64)).toInt = (65536 : Int) from (by decide)))).mp h11
      refine lv_lload_n hx hb dX0_isSign_14 rfl (lv_at hl 0 rfl) ?_
      refine lv_ldc2 (v := (55296 : Int64)) hx hb hown (hts _ (List.mem_cons_of_mem _ k59)) dX0_isSign_15 ?_
      refine W.lcmp hx hb dX0_isSign_18 ?_
      refine lv_if_lt (tgt := 30) hx hb dX0_isSign_19 rfl (fun h19 => ?_) (fun h19 => ?_)
      · skip
        have h19 := (tl_llt (show x.toInt = x.toInt from rfl) (show ((55296 : Int64)).toInt = (55296 : Int) from (by decide))).mp h19
        refine lv_iconst (v := nI 1) hx hb dX0_isSign_30 (by decide) ?_
        refine lv_goto (tgt := 35) hx hb dX0_isSign_31 rfl ?_
        subst hQ
        exact W.zret (v := nI 1) hx hb hr (by decide) (fun t ht hW => ⟨nI 1, rfl, (Or.inl ⟨by decide, by omega⟩), ht⟩) (fun q h => absurd h List.not_mem_nil) dX0_isSign_35
      · skip
        have h19 := (not_congr (tl_llt (show x.toInt = x.toInt from rfl) (show ((55296 : Int64)).toInt = (55296 : Int) from (by decide)))).mp h19
        refine lv_lload_n hx hb dX0_isSign_22 rfl (lv_at hl 0 rfl) ?_
        refine lv_ldc2 (v := (57343 : Int64)) hx hb hown (hts _ (List.mem_cons_of_mem _ k60)) dX0_isSign_23 ?_
        refine W.lcmp hx hb dX0_isSign_26 ?_
        refine lv_if_le (tgt := 34) hx hb dX0_isSign_27 rfl (fun h27 => ?_) (fun h27 => ?_)
        · skip
          have h27 := (tl_lle (show x.toInt = x.toInt from rfl) (show ((57343 : Int64)).toInt = (57343 : Int) from (by decide))).mp h27
          refine lv_iconst (v := nI 0) hx hb dX0_isSign_34 (by decide) ?_
          subst hQ
          exact W.zret (v := nI 0) hx hb hr (by decide) (fun t ht hW => ⟨nI 0, rfl, (Or.inr ⟨by decide, by omega⟩), ht⟩) (fun q h => absurd h List.not_mem_nil) dX0_isSign_35
        · skip
          have h27 := (not_congr (tl_lle (show x.toInt = x.toInt from rfl) (show ((57343 : Int64)).toInt = (57343 : Int) from (by decide)))).mp h27
          refine lv_iconst (v := nI 1) hx hb dX0_isSign_30 (by decide) ?_
          refine lv_goto (tgt := 35) hx hb dX0_isSign_31 rfl ?_
          subst hQ
          exact W.zret (v := nI 1) hx hb hr (by decide) (fun t ht hW => ⟨nI 1, rfl, (Or.inl ⟨by decide, by omega⟩), ht⟩) (fun q h => absurd h List.not_mem_nil) dX0_isSign_35
set_option maxHeartbeats 4000000 in
set_option maxRecDepth 100000 in
theorem c_X_isPlace (l : Launch) (dC : Nat → ClassId) (dI : Nat → Nat → Nat) (h0 q0 q1 n k : Nat) (cA cB : ClassId) (T G T0 G0 : Nat → Int32) (hT : ∀ j, j < n → T j = T0 j) (hG : ∀ j, j < k → G j = G0 j) (hn : n ≤ 3000) (hk : k ≤ 40) (x : Int32) : Met l yX0_isPlace wsX0_isPlace ({ frames := 0, cells := 0, slots := 0, locals := 0 } : Room) (va_Pc [.ref h0, .int x] (fun U => va_P (dC, dI) vwCl [(h0, .inr (0, [.ref q0, .ref q1, .int (nI n), .int (nI k)])), (q0, .inl (cA, 3000, .inl T)), (q1, .inl (cB, 40, .inl G))] U.heap ∧ va_K (dC, dI) vwCl [(cA, .int), (cB, .int)] U)) (vp_Si (fun r : Int32 => (r = 1 ∧ (0 ≤ x.toInt ∧ x.toInt < (n : Int))) ∨ (r = 0 ∧ ¬ (0 ≤ x.toInt ∧ x.toInt < (n : Int))))) 0 0 (fun _ => False) := by
  refine Met.ofW (cc := cX0_isPlace) (maxL := 2) (ret := (some .boolean)) (by decide) rfl ?_
  intro p e s m args below meth c s₁ B hml hv
  obtain ⟨rfl, hP, hK⟩ := hv
  have hx := B.exec
  have hb := B.bytes
  have hr := B.returns
  have hts := atoms_spec (ws := wsX0_isPlace) B.pre
  have hown : s.vm.findClass RX0 = some m.cls := findClass_of_methodNamed B.named
  have hlocks := B.notSynchronized
  have hP : va_P (dC, dI) vwCl [(h0, .inr (0, [.ref q0, .ref q1, .int (nI n), .int (nI k)])), (q0, .inl (cA, 3000, .inl T)), (q1, .inl (cB, 40, .inl G))] s.heap := hP
  have hinX0 : ∀ w ∈ u_ws RX0 TX0 4, w ∈ wsX0_isPlace := fun w h => List.mem_cons_of_mem _ (inX0 w h)
  have hl := lv_entry ([.ref h0, .int x]) (n := 2) (Nat.le_of_ble_eq_true rfl)
  rw [lg_entry_eq]
  generalize (lg_sl ([.ref h0, .int x]) ++ List.replicate (2 - (lg_sl ([.ref h0, .int x])).length) Slot.unset).toArray = ls at hl ⊢
  have hl : lv_has ls 2 [(0, .ref h0), (1, .int x)] := hl
  refine tl_q (fun Q hQ => ?_)
  refine lv_iload_n hx hb dX0_isPlace_0 rfl (lv_at hl 1 rfl) ?_
  refine lv_if_lt (tgt := 16) hx hb dX0_isPlace_1 rfl (fun h1 => ?_) (fun h1 => ?_)
  · skip
    have h1 := (tl_lt (show x.toInt = x.toInt from rfl) (show (0 : Int32).toInt = (0 : Int) from Int32.toInt_zero)).mp h1
    refine lv_iconst (v := nI 0) hx hb dX0_isPlace_16 (by decide) ?_
    subst hQ
    exact W.zret (v := nI 0) hx hb hr (by decide) (fun t ht hW => ⟨nI 0, rfl, (Or.inr ⟨by decide, by omega⟩), ht⟩) (fun q h => absurd h List.not_mem_nil) dX0_isPlace_17
  · skip
    have h1 := (not_congr (tl_lt (show x.toInt = x.toInt from rfl) (show (0 : Int32).toInt = (0 : Int) from Int32.toInt_zero))).mp h1
    refine lv_iload_n hx hb dX0_isPlace_4 rfl (lv_at hl 1 rfl) ?_
    refine lv_aload_n hx hb dX0_isPlace_5 rfl (lv_at hl 0 rfl) ?_
    refine va_get (D := (dC, dI)) (ci := 0) (v := .int (nI n)) (C := RX0) (T := TX0) (N := 4) hx hb hts hinX0 hown hK hP 0 rfl rfl 2 (by decide) (hts _ (List.mem_cons_of_mem _ k39)) (fun _ h9 => h9) rfl dX0_isPlace_6 ?_
    refine lv_icmp_ge (tgt := 16) hx hb dX0_isPlace_9 rfl (fun h9 => ?_) (fun h9 => ?_)
    · skip
      have h9 := (tl_le (show (nI n).toInt = ((n : Nat) : Int) from (nI_toInt (by omega))) (show x.toInt = x.toInt from rfl)).mp h9
      refine lv_iconst (v := nI 0) hx hb dX0_isPlace_16 (by decide) ?_
      subst hQ
      exact W.zret (v := nI 0) hx hb hr (by decide) (fun t ht hW => ⟨nI 0, rfl, (Or.inr ⟨by decide, by omega⟩), ht⟩) (fun q h => absurd h List.not_mem_nil) dX0_isPlace_17
    · skip
      have h9 := (not_congr (tl_le (show (nI n).toInt = ((n : Nat) : Int) from (nI_toInt (by omega))) (show x.toInt = x.toInt from rfl))).mp h9
      refine lv_iconst (v := nI 1) hx hb dX0_isPlace_12 (by decide) ?_
      refine lv_goto (tgt := 17) hx hb dX0_isPlace_13 rfl ?_
      subst hQ
      exact W.zret (v := nI 1) hx hb hr (by decide) (fun t ht hW => ⟨nI 1, rfl, (Or.inl ⟨by decide, by omega⟩), ht⟩) (fun q h => absurd h List.not_mem_nil) dX0_isPlace_17
set_option maxHeartbeats 4000000 in
set_option maxRecDepth 100000 in
theorem c_X_isPlaceOrEnd (l : Launch) (dC : Nat → ClassId) (dI : Nat → Nat → Nat) (h0 q0 q1 n k : Nat) (cA cB : ClassId) (T G T0 G0 : Nat → Int32) (hT : ∀ j, j < n → T j = T0 j) (hG : ∀ j, j < k → G j = G0 j) (hn : n ≤ 3000) (hk : k ≤ 40) (x : Int32) : Met l yX0_isPlaceOrEnd wsX0_isPlaceOrEnd ({ frames := 0, cells := 0, slots := 0, locals := 0 } : Room) (va_Pc [.ref h0, .int x] (fun U => va_P (dC, dI) vwCl [(h0, .inr (0, [.ref q0, .ref q1, .int (nI n), .int (nI k)])), (q0, .inl (cA, 3000, .inl T)), (q1, .inl (cB, 40, .inl G))] U.heap ∧ va_K (dC, dI) vwCl [(cA, .int), (cB, .int)] U)) (vp_Si (fun r : Int32 => (r = 1 ∧ (0 ≤ x.toInt ∧ x.toInt ≤ (n : Int))) ∨ (r = 0 ∧ ¬ (0 ≤ x.toInt ∧ x.toInt ≤ (n : Int))))) 0 0 (fun _ => False) := by
  refine Met.ofW (cc := cX0_isPlaceOrEnd) (maxL := 2) (ret := (some .boolean)) (by decide) rfl ?_
  intro p e s m args below meth c s₁ B hml hv
  obtain ⟨rfl, hP, hK⟩ := hv
  have hx := B.exec
  have hb := B.bytes
  have hr := B.returns
  have hts := atoms_spec (ws := wsX0_isPlaceOrEnd) B.pre
  have hown : s.vm.findClass RX0 = some m.cls := findClass_of_methodNamed B.named
  have hlocks := B.notSynchronized
  have hP : va_P (dC, dI) vwCl [(h0, .inr (0, [.ref q0, .ref q1, .int (nI n), .int (nI k)])), (q0, .inl (cA, 3000, .inl T)), (q1, .inl (cB, 40, .inl G))] s.heap := hP
  have hinX0 : ∀ w ∈ u_ws RX0 TX0 4, w ∈ wsX0_isPlaceOrEnd := fun w h => List.mem_cons_of_mem _ (inX0 w h)
  have hl := lv_entry ([.ref h0, .int x]) (n := 2) (Nat.le_of_ble_eq_true rfl)
  rw [lg_entry_eq]
  generalize (lg_sl ([.ref h0, .int x]) ++ List.replicate (2 - (lg_sl ([.ref h0, .int x])).length) Slot.unset).toArray = ls at hl ⊢
  have hl : lv_has ls 2 [(0, .ref h0), (1, .int x)] := hl
  refine tl_q (fun Q hQ => ?_)
  refine lv_iload_n hx hb dX0_isPlaceOrEnd_0 rfl (lv_at hl 1 rfl) ?_
  refine lv_if_lt (tgt := 16) hx hb dX0_isPlaceOrEnd_1 rfl (fun h1 => ?_) (fun h1 => ?_)
  · skip
    have h1 := (tl_lt (show x.toInt = x.toInt from rfl) (show (0 : Int32).toInt = (0 : Int) from Int32.toInt_zero)).mp h1
    refine lv_iconst (v := nI 0) hx hb dX0_isPlaceOrEnd_16 (by decide) ?_
    subst hQ
    exact W.zret (v := nI 0) hx hb hr (by decide) (fun t ht hW => ⟨nI 0, rfl, (Or.inr ⟨by decide, by omega⟩), ht⟩) (fun q h => absurd h List.not_mem_nil) dX0_isPlaceOrEnd_17
  · skip
    have h1 := (not_congr (tl_lt (show x.toInt = x.toInt from rfl) (show (0 : Int32).toInt = (0 : Int) from Int32.toInt_zero))).mp h1
    refine lv_iload_n hx hb dX0_isPlaceOrEnd_4 rfl (lv_at hl 1 rfl) ?_
    refine lv_aload_n hx hb dX0_isPlaceOrEnd_5 rfl (lv_at hl 0 rfl) ?_
    refine va_get (D := (dC, dI)) (ci := 0) (v := .int (nI n)) (C := RX0) (T := TX0) (N := 4) hx hb hts hinX0 hown hK hP 0 rfl rfl 2 (by decide) (hts _ (List.mem_cons_of_mem _ k39)) (fun _ h9 => h9) rfl dX0_isPlaceOrEnd_6 ?_
    refine lv_icmp_gt (tgt := 16) hx hb dX0_isPlaceOrEnd_9 rfl (fun h9 => ?_) (fun h9 => ?_)
    · skip
      have h9 := (tl_lt (show (nI n).toInt = ((n : Nat) : Int) from (nI_toInt (by omega))) (show x.toInt = x.toInt from rfl)).mp h9
      refine lv_iconst (v := nI 0) hx hb dX0_isPlaceOrEnd_16 (by decide) ?_
      subst hQ
      exact W.zret (v := nI 0) hx hb hr (by decide) (fun t ht hW => ⟨nI 0, rfl, (Or.inr ⟨by decide, by omega⟩), ht⟩) (fun q h => absurd h List.not_mem_nil) dX0_isPlaceOrEnd_17
    · skip
      have h9 := (not_congr (tl_lt (show (nI n).toInt = ((n : Nat) : Int) from (nI_toInt (by omega))) (show x.toInt = x.toInt from rfl))).mp h9
      refine lv_iconst (v := nI 1) hx hb dX0_isPlaceOrEnd_12 (by decide) ?_
      refine lv_goto (tgt := 17) hx hb dX0_isPlaceOrEnd_13 rfl ?_
      subst hQ
      exact W.zret (v := nI 1) hx hb hr (by decide) (fun t ht hW => ⟨nI 1, rfl, (Or.inl ⟨by decide, by omega⟩), ht⟩) (fun q h => absurd h List.not_mem_nil) dX0_isPlaceOrEnd_17
set_option maxHeartbeats 4000000 in
set_option maxRecDepth 100000 in
theorem c_X_hasRoom (l : Launch) (dC : Nat → ClassId) (dI : Nat → Nat → Nat) (h0 q0 q1 n k : Nat) (cA cB : ClassId) (T G T0 G0 : Nat → Int32) (hT : ∀ j, j < n → T j = T0 j) (hG : ∀ j, j < k → G j = G0 j) (hn : n ≤ 3000) (hk : k ≤ 40) (x : Int32) (hx1 : -3000 ≤ x.toInt) (hx2 : x.toInt ≤ 3000) : Met l yX0_hasRoom wsX0_hasRoom ({ frames := 0, cells := 0, slots := 0, locals := 0 } : Room) (va_Pc [.ref h0, .int x] (fun U => va_P (dC, dI) vwCl [(h0, .inr (0, [.ref q0, .ref q1, .int (nI n), .int (nI k)])), (q0, .inl (cA, 3000, .inl T)), (q1, .inl (cB, 40, .inl G))] U.heap ∧ va_K (dC, dI) vwCl [(cA, .int), (cB, .int)] U)) (vp_Si (fun r : Int32 => (r = 1 ∧ ((n : Int) + x.toInt ≤ 3000)) ∨ (r = 0 ∧ ¬ ((n : Int) + x.toInt ≤ 3000)))) 0 0 (fun _ => False) := by
  refine Met.ofW (cc := cX0_hasRoom) (maxL := 2) (ret := (some .boolean)) (by decide) rfl ?_
  intro p e s m args below meth c s₁ B hml hv
  obtain ⟨rfl, hP, hK⟩ := hv
  have hx := B.exec
  have hb := B.bytes
  have hr := B.returns
  have hts := atoms_spec (ws := wsX0_hasRoom) B.pre
  have hown : s.vm.findClass RX0 = some m.cls := findClass_of_methodNamed B.named
  have hlocks := B.notSynchronized
  have hP : va_P (dC, dI) vwCl [(h0, .inr (0, [.ref q0, .ref q1, .int (nI n), .int (nI k)])), (q0, .inl (cA, 3000, .inl T)), (q1, .inl (cB, 40, .inl G))] s.heap := hP
  have hinX0 : ∀ w ∈ u_ws RX0 TX0 4, w ∈ wsX0_hasRoom := fun w h => List.mem_cons_of_mem _ (inX0 w h)
  have hl := lv_entry ([.ref h0, .int x]) (n := 2) (Nat.le_of_ble_eq_true rfl)
  rw [lg_entry_eq]
  generalize (lg_sl ([.ref h0, .int x]) ++ List.replicate (2 - (lg_sl ([.ref h0, .int x])).length) Slot.unset).toArray = ls at hl ⊢
  have hl : lv_has ls 2 [(0, .ref h0), (1, .int x)] := hl
  refine tl_q (fun Q hQ => ?_)
  refine lv_aload_n hx hb dX0_hasRoom_0 rfl (lv_at hl 0 rfl) ?_
  refine va_get (D := (dC, dI)) (ci := 0) (v := .int (nI n)) (C := RX0) (T := TX0) (N := 4) hx hb hts hinX0 hown hK hP 0 rfl rfl 2 (by decide) (hts _ (List.mem_cons_of_mem _ k39)) (fun _ h9 => h9) rfl dX0_hasRoom_1 ?_
  refine lv_iload_n hx hb dX0_hasRoom_4 rfl (lv_at hl 1 rfl) ?_
  refine lv_iadd hx hb dX0_hasRoom_5 ?_
  have e5 : ((nI n) + x).toInt = ((n : Nat) : Int) + x.toInt := tl_addv (nI_toInt (by omega)) rfl (by omega) (by omega)
  refine lv_sipush (v := nI 3000) hx hb dX0_hasRoom_6 (by decide) ?_
  refine lv_icmp_gt (tgt := 16) hx hb dX0_hasRoom_9 rfl (fun h9 => ?_) (fun h9 => ?_)
  · skip
    have h9 := (tl_lt (show (nI 3000).toInt = (3000 : Int) from (by decide)) (show ((nI n) + x).toInt = (((n : Nat) : Int) + x.toInt) from e5)).mp h9
    refine lv_iconst (v := nI 0) hx hb dX0_hasRoom_16 (by decide) ?_
    subst hQ
    exact W.zret (v := nI 0) hx hb hr (by decide) (fun t ht hW => ⟨nI 0, rfl, (Or.inr ⟨by decide, by omega⟩), ht⟩) (fun q h => absurd h List.not_mem_nil) dX0_hasRoom_17
  · skip
    have h9 := (not_congr (tl_lt (show (nI 3000).toInt = (3000 : Int) from (by decide)) (show ((nI n) + x).toInt = (((n : Nat) : Int) + x.toInt) from e5))).mp h9
    refine lv_iconst (v := nI 1) hx hb dX0_hasRoom_12 (by decide) ?_
    refine lv_goto (tgt := 17) hx hb dX0_hasRoom_13 rfl ?_
    subst hQ
    exact W.zret (v := nI 1) hx hb hr (by decide) (fun t ht hW => ⟨nI 1, rfl, (Or.inl ⟨by decide, by omega⟩), ht⟩) (fun q h => absurd h List.not_mem_nil) dX0_hasRoom_17
set_option maxHeartbeats 4000000 in
set_option maxRecDepth 100000 in
theorem c_X_makeGap (l : Launch) (dC : Nat → ClassId) (dI : Nat → Nat → Nat) (h0 q0 q1 sz n k : Nat) (cA cB : ClassId) (T G T0 G0 : Nat → Int32) (hT : ∀ j, j < n → T j = T0 j) (hG : ∀ j, j < k → G j = G0 j) (hn : n ≤ 3000) (hk : k ≤ 40) (a b cz : Nat) (hab : a ≤ b) (hbn : b ≤ n) (hcn : n - (b - a) + cz ≤ 3000) : Met l yX0_makeGap wsX0_makeGap ({ frames := 1, cells := 0, slots := 0, locals := 21 } : Room) (va_Pc [.ref h0, .int (nI a), .int (nI b), .int (nI cz)] (fun U => U.heap.size = sz ∧ va_P (dC, dI) vwCl [(h0, .inr (0, [.ref q0, .ref q1, .int (nI n), .int (nI k)])), (q0, .inl (cA, 3000, .inl T)), (q1, .inl (cB, 40, .inl G))] U.heap ∧ va_K (dC, dI) vwCl [(cA, .int), (cB, .int)] U ∧ va_D (fun _ => True) [(h0, .inr (0, [.ref q0, .ref q1, .int (nI n), .int (nI k)])), (q0, .inl (cA, 3000, .inl T)), (q1, .inl (cB, 40, .inl G))])) (va_Qv (fun (u : tS) => u = (n - (b - a) + cz, va_cpy T T b (a + cz) (n - b), k, G)) (at_X dC dI (va_A [(h0, .inr (0, [.ref q0, .ref q1, .int (nI n), .int (nI k)])), (q0, .inl (cA, 3000, .inl T)), (q1, .inl (cB, 40, .inl G))] sz) h0 q0 q1 cA cB) (va_A [(h0, .inr (0, [.ref q0, .ref q1, .int (nI n), .int (nI k)])), (q0, .inl (cA, 3000, .inl T)), (q1, .inl (cB, 40, .inl G))] sz)) 0 0 (va_A [(h0, .inr (0, [.ref q0, .ref q1, .int (nI n), .int (nI k)])), (q0, .inl (cA, 3000, .inl T)), (q1, .inl (cB, 40, .inl G))] sz) := by
  refine Met.ofW (cc := cX0_makeGap) (maxL := 4) (ret := none) (by decide) rfl ?_
  intro p e s m args below meth c s₁ B hml hv
  obtain ⟨rfl, hsz, hP, hK, hD0⟩ := hv
  have hx := B.exec
  have hb := B.bytes
  have hr := B.returns
  have hts := atoms_spec (ws := wsX0_makeGap) B.pre
  have hown : s.vm.findClass RX0 = some m.cls := findClass_of_methodNamed B.named
  have hlocks := B.notSynchronized
  subst hsz
  have hD := hD0.self (sz := s.heap.size)
  generalize hAe : va_A [(h0, .inr (0, [.ref q0, .ref q1, .int (nI n), .int (nI k)])), (q0, .inl (cA, 3000, .inl T)), (q1, .inl (cB, 40, .inl G))] s.heap.size = A at hD ⊢
  have hA : ∀ q : Nat, s.heap.size ≤ q → A q := fun q h => by rw [← hAe]; exact Or.inr h
  have hS : va_S A s.heap s.heap [] := va_S.rf
  have hP : va_P (dC, dI) vwCl [(h0, .inr (0, [.ref q0, .ref q1, .int (nI n), .int (nI k)])), (q0, .inl (cA, 3000, .inl T)), (q1, .inl (cB, 40, .inl G))] s.heap := hP
  have hinX0 : ∀ w ∈ u_ws RX0 TX0 4, w ∈ wsX0_makeGap := fun w h => List.mem_cons_of_mem _ (inX0 w h)
  have hl := lv_entry ([.ref h0, .int (nI a), .int (nI b), .int (nI cz)]) (n := 4) (Nat.le_of_ble_eq_true rfl)
  rw [lg_entry_eq]
  generalize (lg_sl ([.ref h0, .int (nI a), .int (nI b), .int (nI cz)]) ++ List.replicate (4 - (lg_sl ([.ref h0, .int (nI a), .int (nI b), .int (nI cz)])).length) Slot.unset).toArray = ls at hl ⊢
  have hl : lv_has ls 4 [(0, .ref h0), (1, .int (nI a)), (2, .int (nI b)), (3, .int (nI cz))] := hl
  refine tl_q (fun Q hQ => ?_)
  refine lv_aload_n hx hb dX0_makeGap_0 rfl (lv_at hl 0 rfl) ?_
  refine va_get (D := (dC, dI)) (ci := 0) (v := .ref q0) (C := RX0) (T := TX0) (N := 4) hx hb hts hinX0 hown hK hP 0 rfl rfl 0 (by decide) (hts _ (List.mem_cons_of_mem _ k37)) (fun _ h9 => h9) rfl dX0_makeGap_1 ?_
  refine lv_iload_n hx hb dX0_makeGap_4 rfl (lv_at hl 2 rfl) ?_
  refine lv_aload_n hx hb dX0_makeGap_5 rfl (lv_at hl 0 rfl) ?_
  refine va_get (D := (dC, dI)) (ci := 0) (v := .ref q0) (C := RX0) (T := TX0) (N := 4) hx hb hts hinX0 hown hK hP 0 rfl rfl 0 (by decide) (hts _ (List.mem_cons_of_mem _ k37)) (fun _ h9 => h9) rfl dX0_makeGap_6 ?_
  refine lv_iload_n hx hb dX0_makeGap_9 rfl (lv_at hl 1 rfl) ?_
  refine lv_iload_n hx hb dX0_makeGap_10 rfl (lv_at hl 3 rfl) ?_
  refine lv_iadd hx hb dX0_makeGap_11 ?_
  refine tl_top (nI_add _ _) ?_
  refine lv_aload_n hx hb dX0_makeGap_12 rfl (lv_at hl 0 rfl) ?_
  refine va_get (D := (dC, dI)) (ci := 0) (v := .int (nI n)) (C := RX0) (T := TX0) (N := 4) hx hb hts hinX0 hown hK hP 0 rfl rfl 2 (by decide) (hts _ (List.mem_cons_of_mem _ k39)) (fun _ h9 => h9) rfl dX0_makeGap_13 ?_
  refine lv_iload_n hx hb dX0_makeGap_16 rfl (lv_at hl 2 rfl) ?_
  refine lv_isub hx hb dX0_makeGap_17 ?_
  refine tl_top (pk_sub (by omega)) ?_
  refine tl_copy hx hb (hml.trans hl.1.symm) hown (hts _ (List.mem_cons_of_mem _ k85)) (hts _ (List.mem_cons_of_mem _ k87)) (hts _ (List.mem_cons_of_mem _ k86)) (hts _ (List.mem_cons_of_mem _ k23)) hK hP hD hS 1 1 0 0 rfl rfl rfl rfl (by decide) (by decide) (by omega) (by omega) (Nat.le_of_ble_eq_true rfl) (Nat.le_of_ble_eq_true rfl) dX0_makeGap_18 (fun H locs hP hD hS => ?_)
  have hP : va_P (dC, dI) vwCl [(h0, .inr (0, [.ref q0, .ref q1, .int (nI n), .int (nI k)])), (q0, .inl (cA, 3000, .inl (va_cpy T T b (a + cz) (n - b)))), (q1, .inl (cB, 40, .inl G))] H := hP
  have hD : va_D A [(h0, .inr (0, [.ref q0, .ref q1, .int (nI n), .int (nI k)])), (q0, .inl (cA, 3000, .inl (va_cpy T T b (a + cz) (n - b)))), (q1, .inl (cB, 40, .inl G))] := hD
  refine lv_aload_n hx hb dX0_makeGap_21 rfl (lv_at hl 0 rfl) ?_
  refine lv_aload_n hx hb dX0_makeGap_22 rfl (lv_at hl 0 rfl) ?_
  refine va_get (D := (dC, dI)) (ci := 0) (v := .int (nI n)) (C := RX0) (T := TX0) (N := 4) hx hb hts hinX0 hown hK hP 0 rfl rfl 2 (by decide) (hts _ (List.mem_cons_of_mem _ k39)) (fun _ h9 => h9) rfl dX0_makeGap_23 ?_
  refine lv_iload_n hx hb dX0_makeGap_26 rfl (lv_at hl 2 rfl) ?_
  refine lv_iload_n hx hb dX0_makeGap_27 rfl (lv_at hl 1 rfl) ?_
  refine lv_isub hx hb dX0_makeGap_28 ?_
  refine tl_top (pk_sub (by omega)) ?_
  refine lv_isub hx hb dX0_makeGap_29 ?_
  refine tl_top (pk_sub (by omega)) ?_
  refine lv_iload_n hx hb dX0_makeGap_30 rfl (lv_at hl 3 rfl) ?_
  refine lv_iadd hx hb dX0_makeGap_31 ?_
  refine tl_top (nI_add _ _) ?_
  refine va_put (D := (dC, dI)) (ci := 0) (v := .int (nI ((n - (b - a)) + cz))) (ty := .int) (C := RX0) (T := TX0) (N := 4) hx hb hts hinX0 tyX0 tyX0_ok nmX0 hown hK hP hD hS 0 rfl rfl 2 (by decide) (hts _ (List.mem_cons_of_mem _ k39)) (fun _ h9 => h9) rfl (by decide +kernel) rfl rfl (Nat.le_of_ble_eq_true rfl) dX0_makeGap_32 (fun H locs hP hD hS => ?_)
  have hP : va_P (dC, dI) vwCl [(h0, .inr (0, [.ref q0, .ref q1, .int (nI ((n - (b - a)) + cz)), .int (nI k)])), (q0, .inl (cA, 3000, .inl (va_cpy T T b (a + cz) (n - b)))), (q1, .inl (cB, 40, .inl G))] H := hP
  have hD : va_D A [(h0, .inr (0, [.ref q0, .ref q1, .int (nI ((n - (b - a)) + cz)), .int (nI k)])), (q0, .inl (cA, 3000, .inl (va_cpy T T b (a + cz) (n - b)))), (q1, .inl (cB, 40, .inl G))] := hD
  subst hQ
  exact W.vret hx hb hr (fun t ht hW => ⟨⟨((n - (b - a)) + cz, va_cpy T T b (a + cz) (n - b), k, G), rfl, rfl, by rw [ht]; exact hP, va_K.moved hW.alike hK, hD⟩, hS.F ht⟩) hS.2.2 dX0_makeGap_35
end
section
set_option maxHeartbeats 4000000 in
set_option maxRecDepth 100000 in
theorem c_X_putScrap (l : Launch) (dC : Nat → ClassId) (dI : Nat → Nat → Nat) (h0 q0 q1 sz n k : Nat) (cA cB : ClassId) (T G T0 G0 : Nat → Int32) (hT : ∀ j, j < n → T j = T0 j) (hG : ∀ j, j < k → G j = G0 j) (hn : n ≤ 3000) (hk : k ≤ 40) (a b : Nat) (hab : a ≤ b) (hbn : b ≤ n) : Met l yX0_putScrap wsX0_putScrap ({ frames := 2, cells := 0, slots := 0, locals := 44 } : Room) (va_Pc [.ref h0, .int (nI a), .int (nI b)] (fun U => U.heap.size = sz ∧ va_P (dC, dI) vwCl [(h0, .inr (0, [.ref q0, .ref q1, .int (nI n), .int (nI k)])), (q0, .inl (cA, 3000, .inl T)), (q1, .inl (cB, 40, .inl G))] U.heap ∧ va_K (dC, dI) vwCl [(cA, .int), (cB, .int)] U ∧ va_D (fun _ => True) [(h0, .inr (0, [.ref q0, .ref q1, .int (nI n), .int (nI k)])), (q0, .inl (cA, 3000, .inl T)), (q1, .inl (cB, 40, .inl G))])) (va_Qi (fun (r : Int32) (u : tS) => r = (sp_put a b G0 k n T0 k G0).1 ∧ tE u (sp_put a b G0 k n T0 k G0).2) (at_X dC dI (va_A [(h0, .inr (0, [.ref q0, .ref q1, .int (nI n), .int (nI k)])), (q0, .inl (cA, 3000, .inl T)), (q1, .inl (cB, 40, .inl G))] sz) h0 q0 q1 cA cB) (va_A [(h0, .inr (0, [.ref q0, .ref q1, .int (nI n), .int (nI k)])), (q0, .inl (cA, 3000, .inl T)), (q1, .inl (cB, 40, .inl G))] sz)) 0 0 (va_A [(h0, .inr (0, [.ref q0, .ref q1, .int (nI n), .int (nI k)])), (q0, .inl (cA, 3000, .inl T)), (q1, .inl (cB, 40, .inl G))] sz) := by
  refine Met.ofW (cc := cX0_putScrap) (maxL := 3) (ret := (some .int)) (by decide) rfl ?_
  intro p e s m args below meth c s₁ B hml hv
  obtain ⟨rfl, hsz, hP, hK, hD0⟩ := hv
  have hx := B.exec
  have hb := B.bytes
  have hr := B.returns
  have hts := atoms_spec (ws := wsX0_putScrap) B.pre
  have hown : s.vm.findClass RX0 = some m.cls := findClass_of_methodNamed B.named
  have hlocks := B.notSynchronized
  subst hsz
  have hD := hD0.self (sz := s.heap.size)
  generalize hAe : va_A [(h0, .inr (0, [.ref q0, .ref q1, .int (nI n), .int (nI k)])), (q0, .inl (cA, 3000, .inl T)), (q1, .inl (cB, 40, .inl G))] s.heap.size = A at hD ⊢
  have hA : ∀ q : Nat, s.heap.size ≤ q → A q := fun q h => by rw [← hAe]; exact Or.inr h
  have hS : va_S A s.heap s.heap [] := va_S.rf
  have hP : va_P (dC, dI) vwCl [(h0, .inr (0, [.ref q0, .ref q1, .int (nI n), .int (nI k)])), (q0, .inl (cA, 3000, .inl T)), (q1, .inl (cB, 40, .inl G))] s.heap := hP
  have hinX0 : ∀ w ∈ u_ws RX0 TX0 4, w ∈ wsX0_putScrap := fun w h => List.mem_cons_of_mem _ (inX0 w h)
  have hl := lv_entry ([.ref h0, .int (nI a), .int (nI b)]) (n := 3) (Nat.le_of_ble_eq_true rfl)
  rw [lg_entry_eq]
  generalize (lg_sl ([.ref h0, .int (nI a), .int (nI b)]) ++ List.replicate (3 - (lg_sl ([.ref h0, .int (nI a), .int (nI b)])).length) Slot.unset).toArray = ls at hl ⊢
  have hl : lv_has ls 3 [(0, .ref h0), (1, .int (nI a)), (2, .int (nI b))] := hl
  refine tl_q (fun Q hQ => ?_)
  refine lv_aload_n hx hb dX0_putScrap_0 rfl (lv_at hl 0 rfl) ?_
  refine lv_aload_n hx hb dX0_putScrap_1 rfl (lv_at hl 0 rfl) ?_
  refine va_get (D := (dC, dI)) (ci := 0) (v := .int (nI k)) (C := RX0) (T := TX0) (N := 4) hx hb hts hinX0 hown hK hP 0 rfl rfl 3 (by decide) (hts _ (List.mem_cons_of_mem _ k40)) (fun _ h9 => h9) rfl dX0_putScrap_2 ?_
  refine lv_iload_n hx hb dX0_putScrap_5 rfl (lv_at hl 2 rfl) ?_
  refine lv_iload_n hx hb dX0_putScrap_6 rfl (lv_at hl 1 rfl) ?_
  refine lv_isub hx hb dX0_putScrap_7 ?_
  refine tl_top (pk_sub (by omega)) ?_
  refine lv_isub hx hb dX0_putScrap_8 ?_
  have e8 : ((nI k) - (nI (b - a))).toInt = ((k : Nat) : Int) - (((b - a : Nat) : Int)) := tl_subv (nI_toInt (by omega)) (nI_toInt (by omega)) (by omega) (by omega)
  refine vp_callSi ((va_runV (As := [.int ((nI k) - (nI (b - a)))]) (rest := []) ⟨hx, hb, hml, hown, hts⟩ (c_X_hasRoom l dC dI h0 q0 q1 n k cA cB T G T0 G0 hT hG hn hk ((nI k) - (nI (b - a))) (by omega) (by omega)) (cwV 1 hts (gV_ (fun w h => List.mem_cons_of_mem _ h) k77 k79 k1 k21 k80) rfl rfl rfl (by decide +kernel) ⟨Nat.le_of_ble_eq_true rfl, Nat.le_of_ble_eq_true rfl⟩) ⟨fun a U g mk q => by obtain ⟨q0, qP, qK⟩ := q; exact ⟨q0, qP, va_K.moved (u := U) (U := U.calling g mk a) (Vm.Alike.refl U.vm) qK⟩, va_recv hK hP (ci := 0) (q0 := 0) rfl rfl, fun U hU hW => ⟨rfl, by rw [hU]; exact hP, va_K.moved hW.alike hK⟩⟩ rfl rfl hl.1 rfl (lv_room (Nat.le_of_ble_eq_true rfl)) dX0_putScrap_9 ⟨Nat.le_of_ble_eq_true rfl, Nat.le_of_ble_eq_true rfl⟩).run) (fun r9 w9 => ?_)
  try dsimp only at w9
  refine lv_if_ne (tgt := 18) hx hb dX0_putScrap_12 rfl (fun h12 => ?_) (fun h12 => ?_)
  · skip
    have h12 := (tl_b1 w9).mp h12
    refine lv_aload_n hx hb dX0_putScrap_18 rfl (lv_at hl 0 rfl) ?_
    refine lv_iload_n hx hb dX0_putScrap_19 rfl (lv_at hl 1 rfl) ?_
    refine lv_iload_n hx hb dX0_putScrap_20 rfl (lv_at hl 2 rfl) ?_
    refine lv_aload_n hx hb dX0_putScrap_21 rfl (lv_at hl 0 rfl) ?_
    refine va_get (D := (dC, dI)) (ci := 0) (v := .int (nI k)) (C := RX0) (T := TX0) (N := 4) hx hb hts hinX0 hown hK hP 0 rfl rfl 3 (by decide) (hts _ (List.mem_cons_of_mem _ k40)) (fun _ h9 => h9) rfl dX0_putScrap_22 ?_
    have hPc := hP.sub (ws' := [(h0, .inr (0, [.ref q0, .ref q1, .int (nI n), .int (nI k)])), (q0, .inl (cA, 3000, .inl T)), (q1, .inl (cB, 40, .inl G))]) [0, 1, 2] rfl
    have hDc := hD.sub (ws' := [(h0, .inr (0, [.ref q0, .ref q1, .int (nI n), .int (nI k)])), (q0, .inl (cA, 3000, .inl T)), (q1, .inl (cB, 40, .inl G))]) [0, 1, 2] (by decide) rfl
    have hKc := hK
    have hFc := va_free (wc := [(h0, .inr (0, [.ref q0, .ref q1, .int (nI n), .int (nI k)])), (q0, .inl (cA, 3000, .inl T)), (q1, .inl (cB, 40, .inl G))]) hD hS hA [0, 1, 2] rfl
    refine va_callv (va_runV (As := [.int (nI a), .int (nI b), .int (nI k)]) (rest := []) ⟨hx, hb, hml, hown, hts⟩ (c_X_makeGap l dC dI h0 q0 q1 s.heap.size n k cA cB T G T0 G0 hT hG hn hk a b k (by omega) (by omega) (by omega)) (cwV 3 hts (gV_ (fun w h => List.mem_cons_of_mem _ h) k81 k83 k2 k21 k84) rfl rfl rfl (by decide +kernel) ⟨Nat.le_of_ble_eq_true rfl, Nat.le_of_ble_eq_true rfl⟩) ⟨fun a U g mk q => by obtain ⟨q0, q1, qP, qK, qD⟩ := q; exact ⟨q0, q1, qP, va_K.moved (u := U) (U := U.calling g mk a) (Vm.Alike.refl U.vm) qK, qD⟩, va_recv hKc hPc (ci := 0) (q0 := 0) rfl rfl, fun U hU hW => ⟨rfl, by rw [hU], by rw [hU]; exact hPc, va_K.moved hW.alike hKc, hDc.weaken (fun _ _ _ _ => trivial)⟩⟩ rfl rfl hl.1 rfl (lv_room (Nat.le_of_ble_eq_true rfl)) dX0_putScrap_25 ⟨Nat.le_of_ble_eq_true rfl, Nat.le_of_ble_eq_true rfl⟩) hS (fun q _ h => hFc q h) hFc (fun u25 t H locs ht hvm w25 hB hz1 hk1 hS => ?_)
    try dsimp only at w25
    subst w25
    obtain ⟨hP1, hK1, hD1⟩ := hB
    rw [ht] at hP1
    obtain ⟨hP, hD⟩ := va_join (wr := []) (w1 := [(h0, .inr (0, [.ref q0, .ref q1, .int (nI (n - (b - a) + k)), .int (nI k)])), (q0, .inl (cA, 3000, .inl (va_cpy T T b (a + k) (n - b)))), (q1, .inl (cB, 40, .inl G))]) hP hD [0, 1, 2] [] rfl rfl (by decide) (by decide) hk1 hFc hP1 hD1
    have hP : va_P (dC, dI) vwCl [(h0, .inr (0, [.ref q0, .ref q1, .int (nI (n - (b - a) + k)), .int (nI k)])), (q0, .inl (cA, 3000, .inl (va_cpy T T b (a + k) (n - b)))), (q1, .inl (cB, 40, .inl G))] H := hP
    have hD : va_D A [(h0, .inr (0, [.ref q0, .ref q1, .int (nI (n - (b - a) + k)), .int (nI k)])), (q0, .inl (cA, 3000, .inl (va_cpy T T b (a + k) (n - b)))), (q1, .inl (cB, 40, .inl G))] := hD
    refine lv_aload_n hx hb dX0_putScrap_28 rfl (lv_at hl 0 rfl) ?_
    refine va_get (D := (dC, dI)) (ci := 0) (v := .ref q1) (C := RX0) (T := TX0) (N := 4) hx hb hts hinX0 hown hK hP 0 rfl rfl 1 (by decide) (hts _ (List.mem_cons_of_mem _ k38)) (fun _ h9 => h9) rfl dX0_putScrap_29 ?_
    refine lv_iconst (v := nI 0) hx hb dX0_putScrap_32 (by decide) ?_
    refine lv_aload_n hx hb dX0_putScrap_33 rfl (lv_at hl 0 rfl) ?_
    refine va_get (D := (dC, dI)) (ci := 0) (v := .ref q0) (C := RX0) (T := TX0) (N := 4) hx hb hts hinX0 hown hK hP 0 rfl rfl 0 (by decide) (hts _ (List.mem_cons_of_mem _ k37)) (fun _ h9 => h9) rfl dX0_putScrap_34 ?_
    refine lv_iload_n hx hb dX0_putScrap_37 rfl (lv_at hl 1 rfl) ?_
    refine lv_aload_n hx hb dX0_putScrap_38 rfl (lv_at hl 0 rfl) ?_
    refine va_get (D := (dC, dI)) (ci := 0) (v := .int (nI k)) (C := RX0) (T := TX0) (N := 4) hx hb hts hinX0 hown hK hP 0 rfl rfl 3 (by decide) (hts _ (List.mem_cons_of_mem _ k40)) (fun _ h9 => h9) rfl dX0_putScrap_39 ?_
    refine tl_copy hx hb (hml.trans hl.1.symm) hown (hts _ (List.mem_cons_of_mem _ k85)) (hts _ (List.mem_cons_of_mem _ k87)) (hts _ (List.mem_cons_of_mem _ k86)) (hts _ (List.mem_cons_of_mem _ k23)) hK hP hD hS 2 1 1 0 rfl rfl rfl rfl (by decide) (by decide) (by omega) (by omega) (Nat.le_of_ble_eq_true rfl) (Nat.le_of_ble_eq_true rfl) dX0_putScrap_42 (fun H locs hP hD hS => ?_)
    have hP : va_P (dC, dI) vwCl [(h0, .inr (0, [.ref q0, .ref q1, .int (nI (n - (b - a) + k)), .int (nI k)])), (q0, .inl (cA, 3000, .inl (va_cpy G (va_cpy T T b (a + k) (n - b)) 0 a k))), (q1, .inl (cB, 40, .inl G))] H := hP
    have hD : va_D A [(h0, .inr (0, [.ref q0, .ref q1, .int (nI (n - (b - a) + k)), .int (nI k)])), (q0, .inl (cA, 3000, .inl (va_cpy G (va_cpy T T b (a + k) (n - b)) 0 a k))), (q1, .inl (cB, 40, .inl G))] := hD
    refine lv_aload_n hx hb dX0_putScrap_45 rfl (lv_at hl 0 rfl) ?_
    refine va_get (D := (dC, dI)) (ci := 0) (v := .int (nI (n - (b - a) + k))) (C := RX0) (T := TX0) (N := 4) hx hb hts hinX0 hown hK hP 0 rfl rfl 2 (by decide) (hts _ (List.mem_cons_of_mem _ k39)) (fun _ h9 => h9) rfl dX0_putScrap_46 ?_
    subst hQ
    exact W.iret (v := nI (n - (b - a) + k)) hx hb hr (fun t ht hW => ⟨⟨nI (n - (b - a) + k), (n - (b - a) + k, va_cpy G (va_cpy T T b (a + k) (n - b)) 0 a k, k, G), rfl, (by unfold sp_put; rw [if_pos (by omega)]; exact ⟨rfl, tE_mk (pu_scrap hT hG hab hbn) hG (by omega) hk⟩), by rw [ht]; exact hP, va_K.moved hW.alike hK, hD⟩, hS.F ht⟩) hS.2.2 dX0_putScrap_49
  · skip
    have h12 := (tl_b0 w9).mp h12
    refine lv_bipush (v := (-3 : Int32)) hx hb dX0_putScrap_15 (by decide) ?_
    subst hQ
    exact W.iret (v := (-3 : Int32)) hx hb hr (fun t ht hW => ⟨⟨(-3 : Int32), (n, T, k, G), rfl, (by unfold sp_put; rw [if_neg (by omega)]; exact ⟨rfl, tE_mk hT hG hn hk⟩), by rw [ht]; exact hP, va_K.moved hW.alike hK, hD⟩, hS.F ht⟩) hS.2.2 dX0_putScrap_17
set_option maxHeartbeats 4000000 in
set_option maxRecDepth 100000 in
theorem c_X_putSign (l : Launch) (dC : Nat → ClassId) (dI : Nat → Nat → Nat) (h0 q0 q1 sz n k : Nat) (cA cB : ClassId) (T G T0 G0 : Nat → Int32) (hT : ∀ j, j < n → T j = T0 j) (hG : ∀ j, j < k → G j = G0 j) (hn : n ≤ 3000) (hk : k ≤ 40) (a : Nat) (y : Int32) (han : a ≤ n) : Met l yX0_putSign wsX0_putSign ({ frames := 2, cells := 0, slots := 0, locals := 44 } : Room) (va_Pc [.ref h0, .int (nI a), .int y] (fun U => U.heap.size = sz ∧ va_P (dC, dI) vwCl [(h0, .inr (0, [.ref q0, .ref q1, .int (nI n), .int (nI k)])), (q0, .inl (cA, 3000, .inl T)), (q1, .inl (cB, 40, .inl G))] U.heap ∧ va_K (dC, dI) vwCl [(cA, .int), (cB, .int)] U ∧ va_D (fun _ => True) [(h0, .inr (0, [.ref q0, .ref q1, .int (nI n), .int (nI k)])), (q0, .inl (cA, 3000, .inl T)), (q1, .inl (cB, 40, .inl G))])) (va_Qi (fun (r : Int32) (u : tS) => r = (sp_put a a (fun _ => y) 1 n T0 k G0).1 ∧ tE u (sp_put a a (fun _ => y) 1 n T0 k G0).2) (at_X dC dI (va_A [(h0, .inr (0, [.ref q0, .ref q1, .int (nI n), .int (nI k)])), (q0, .inl (cA, 3000, .inl T)), (q1, .inl (cB, 40, .inl G))] sz) h0 q0 q1 cA cB) (va_A [(h0, .inr (0, [.ref q0, .ref q1, .int (nI n), .int (nI k)])), (q0, .inl (cA, 3000, .inl T)), (q1, .inl (cB, 40, .inl G))] sz)) 0 0 (va_A [(h0, .inr (0, [.ref q0, .ref q1, .int (nI n), .int (nI k)])), (q0, .inl (cA, 3000, .inl T)), (q1, .inl (cB, 40, .inl G))] sz) := by
  refine Met.ofW (cc := cX0_putSign) (maxL := 3) (ret := (some .int)) (by decide) rfl ?_
  intro p e s m args below meth c s₁ B hml hv
  obtain ⟨rfl, hsz, hP, hK, hD0⟩ := hv
  have hx := B.exec
  have hb := B.bytes
  have hr := B.returns
  have hts := atoms_spec (ws := wsX0_putSign) B.pre
  have hown : s.vm.findClass RX0 = some m.cls := findClass_of_methodNamed B.named
  have hlocks := B.notSynchronized
  subst hsz
  have hD := hD0.self (sz := s.heap.size)
  generalize hAe : va_A [(h0, .inr (0, [.ref q0, .ref q1, .int (nI n), .int (nI k)])), (q0, .inl (cA, 3000, .inl T)), (q1, .inl (cB, 40, .inl G))] s.heap.size = A at hD ⊢
  have hA : ∀ q : Nat, s.heap.size ≤ q → A q := fun q h => by rw [← hAe]; exact Or.inr h
  have hS : va_S A s.heap s.heap [] := va_S.rf
  have hP : va_P (dC, dI) vwCl [(h0, .inr (0, [.ref q0, .ref q1, .int (nI n), .int (nI k)])), (q0, .inl (cA, 3000, .inl T)), (q1, .inl (cB, 40, .inl G))] s.heap := hP
  have hinX0 : ∀ w ∈ u_ws RX0 TX0 4, w ∈ wsX0_putSign := fun w h => List.mem_cons_of_mem _ (inX0 w h)
  have hl := lv_entry ([.ref h0, .int (nI a), .int y]) (n := 3) (Nat.le_of_ble_eq_true rfl)
  rw [lg_entry_eq]
  generalize (lg_sl ([.ref h0, .int (nI a), .int y]) ++ List.replicate (3 - (lg_sl ([.ref h0, .int (nI a), .int y])).length) Slot.unset).toArray = ls at hl ⊢
  have hl : lv_has ls 3 [(0, .ref h0), (1, .int (nI a)), (2, .int y)] := hl
  refine tl_q (fun Q hQ => ?_)
  refine lv_aload_n hx hb dX0_putSign_0 rfl (lv_at hl 0 rfl) ?_
  refine lv_iconst (v := nI 1) hx hb dX0_putSign_1 (by decide) ?_
  have ea2_0 : (nI 1).toInt = (1 : Int) := (by decide)
  refine vp_callSi ((va_runV (As := [.int (nI 1)]) (rest := []) ⟨hx, hb, hml, hown, hts⟩ (c_X_hasRoom l dC dI h0 q0 q1 n k cA cB T G T0 G0 hT hG hn hk (nI 1) (by omega) (by omega)) (cwV 1 hts (gV_ (fun w h => List.mem_cons_of_mem _ h) k77 k79 k1 k21 k80) rfl rfl rfl (by decide +kernel) ⟨Nat.le_of_ble_eq_true rfl, Nat.le_of_ble_eq_true rfl⟩) ⟨fun a U g mk q => by obtain ⟨q0, qP, qK⟩ := q; exact ⟨q0, qP, va_K.moved (u := U) (U := U.calling g mk a) (Vm.Alike.refl U.vm) qK⟩, va_recv hK hP (ci := 0) (q0 := 0) rfl rfl, fun U hU hW => ⟨rfl, by rw [hU]; exact hP, va_K.moved hW.alike hK⟩⟩ rfl rfl hl.1 rfl (lv_room (Nat.le_of_ble_eq_true rfl)) dX0_putSign_2 ⟨Nat.le_of_ble_eq_true rfl, Nat.le_of_ble_eq_true rfl⟩).run) (fun r2 w2 => ?_)
  try dsimp only at w2
  refine lv_if_ne (tgt := 11) hx hb dX0_putSign_5 rfl (fun h5 => ?_) (fun h5 => ?_)
  · skip
    have h5 := (tl_b1 w2).mp h5
    refine lv_aload_n hx hb dX0_putSign_11 rfl (lv_at hl 0 rfl) ?_
    refine lv_iload_n hx hb dX0_putSign_12 rfl (lv_at hl 1 rfl) ?_
    refine lv_iload_n hx hb dX0_putSign_13 rfl (lv_at hl 1 rfl) ?_
    refine lv_iconst (v := nI 1) hx hb dX0_putSign_14 (by decide) ?_
    have hPc := hP.sub (ws' := [(h0, .inr (0, [.ref q0, .ref q1, .int (nI n), .int (nI k)])), (q0, .inl (cA, 3000, .inl T)), (q1, .inl (cB, 40, .inl G))]) [0, 1, 2] rfl
    have hDc := hD.sub (ws' := [(h0, .inr (0, [.ref q0, .ref q1, .int (nI n), .int (nI k)])), (q0, .inl (cA, 3000, .inl T)), (q1, .inl (cB, 40, .inl G))]) [0, 1, 2] (by decide) rfl
    have hKc := hK
    have hFc := va_free (wc := [(h0, .inr (0, [.ref q0, .ref q1, .int (nI n), .int (nI k)])), (q0, .inl (cA, 3000, .inl T)), (q1, .inl (cB, 40, .inl G))]) hD hS hA [0, 1, 2] rfl
    refine va_callv (va_runV (As := [.int (nI a), .int (nI a), .int (nI 1)]) (rest := []) ⟨hx, hb, hml, hown, hts⟩ (c_X_makeGap l dC dI h0 q0 q1 s.heap.size n k cA cB T G T0 G0 hT hG hn hk a a 1 (by omega) (by omega) (by omega)) (cwV 3 hts (gV_ (fun w h => List.mem_cons_of_mem _ h) k81 k83 k2 k21 k84) rfl rfl rfl (by decide +kernel) ⟨Nat.le_of_ble_eq_true rfl, Nat.le_of_ble_eq_true rfl⟩) ⟨fun a U g mk q => by obtain ⟨q0, q1, qP, qK, qD⟩ := q; exact ⟨q0, q1, qP, va_K.moved (u := U) (U := U.calling g mk a) (Vm.Alike.refl U.vm) qK, qD⟩, va_recv hKc hPc (ci := 0) (q0 := 0) rfl rfl, fun U hU hW => ⟨rfl, by rw [hU], by rw [hU]; exact hPc, va_K.moved hW.alike hKc, hDc.weaken (fun _ _ _ _ => trivial)⟩⟩ rfl rfl hl.1 rfl (lv_room (Nat.le_of_ble_eq_true rfl)) dX0_putSign_15 ⟨Nat.le_of_ble_eq_true rfl, Nat.le_of_ble_eq_true rfl⟩) hS (fun q _ h => hFc q h) hFc (fun u15 t H locs ht hvm w15 hB hz1 hk1 hS => ?_)
    try dsimp only at w15
    subst w15
    obtain ⟨hP1, hK1, hD1⟩ := hB
    rw [ht] at hP1
    obtain ⟨hP, hD⟩ := va_join (wr := []) (w1 := [(h0, .inr (0, [.ref q0, .ref q1, .int (nI (n - (a - a) + 1)), .int (nI k)])), (q0, .inl (cA, 3000, .inl (va_cpy T T a (a + 1) (n - a)))), (q1, .inl (cB, 40, .inl G))]) hP hD [0, 1, 2] [] rfl rfl (by decide) (by decide) hk1 hFc hP1 hD1
    have hP : va_P (dC, dI) vwCl [(h0, .inr (0, [.ref q0, .ref q1, .int (nI (n - (a - a) + 1)), .int (nI k)])), (q0, .inl (cA, 3000, .inl (va_cpy T T a (a + 1) (n - a)))), (q1, .inl (cB, 40, .inl G))] H := hP
    have hD : va_D A [(h0, .inr (0, [.ref q0, .ref q1, .int (nI (n - (a - a) + 1)), .int (nI k)])), (q0, .inl (cA, 3000, .inl (va_cpy T T a (a + 1) (n - a)))), (q1, .inl (cB, 40, .inl G))] := hD
    refine lv_aload_n hx hb dX0_putSign_18 rfl (lv_at hl 0 rfl) ?_
    refine va_get (D := (dC, dI)) (ci := 0) (v := .ref q0) (C := RX0) (T := TX0) (N := 4) hx hb hts hinX0 hown hK hP 0 rfl rfl 0 (by decide) (hts _ (List.mem_cons_of_mem _ k37)) (fun _ h9 => h9) rfl dX0_putSign_19 ?_
    refine lv_iload_n hx hb dX0_putSign_22 rfl (lv_at hl 1 rfl) ?_
    refine lv_iload_n hx hb dX0_putSign_23 rfl (lv_at hl 2 rfl) ?_
    refine tl_iast hx hb hK hP hD hS 1 0 rfl rfl (by omega) (by decide) dX0_putSign_24 (fun H locs hP hD hS => ?_)
    have hP : va_P (dC, dI) vwCl [(h0, .inr (0, [.ref q0, .ref q1, .int (nI (n - (a - a) + 1)), .int (nI k)])), (q0, .inl (cA, 3000, .inl (upd (va_cpy T T a (a + 1) (n - a)) a y))), (q1, .inl (cB, 40, .inl G))] H := hP
    have hD : va_D A [(h0, .inr (0, [.ref q0, .ref q1, .int (nI (n - (a - a) + 1)), .int (nI k)])), (q0, .inl (cA, 3000, .inl (upd (va_cpy T T a (a + 1) (n - a)) a y))), (q1, .inl (cB, 40, .inl G))] := hD
    refine lv_aload_n hx hb dX0_putSign_25 rfl (lv_at hl 0 rfl) ?_
    refine va_get (D := (dC, dI)) (ci := 0) (v := .int (nI (n - (a - a) + 1))) (C := RX0) (T := TX0) (N := 4) hx hb hts hinX0 hown hK hP 0 rfl rfl 2 (by decide) (hts _ (List.mem_cons_of_mem _ k39)) (fun _ h9 => h9) rfl dX0_putSign_26 ?_
    subst hQ
    exact W.iret (v := nI (n - (a - a) + 1)) hx hb hr (fun t ht hW => ⟨⟨nI (n - (a - a) + 1), (n - (a - a) + 1, upd (va_cpy T T a (a + 1) (n - a)) a y, k, G), rfl, (by unfold sp_put; rw [if_pos (by omega)]; exact ⟨rfl, tE_mk (pu_sign hT han) hG (by omega) hk⟩), by rw [ht]; exact hP, va_K.moved hW.alike hK, hD⟩, hS.F ht⟩) hS.2.2 dX0_putSign_29
  · skip
    have h5 := (tl_b0 w2).mp h5
    refine lv_bipush (v := (-3 : Int32)) hx hb dX0_putSign_8 (by decide) ?_
    subst hQ
    exact W.iret (v := (-3 : Int32)) hx hb hr (fun t ht hW => ⟨⟨(-3 : Int32), (n, T, k, G), rfl, (by unfold sp_put; rw [if_neg (by omega)]; exact ⟨rfl, tE_mk hT hG hn hk⟩), by rw [ht]; exact hP, va_K.moved hW.alike hK, hD⟩, hS.F ht⟩) hS.2.2 dX0_putSign_10
set_option maxHeartbeats 4000000 in
set_option maxRecDepth 100000 in
theorem c_X_countDigits (l : Launch) (x : Int64) : Met l yX0_countDigits wsX0_countDigits ({ frames := 0, cells := 0, slots := 0, locals := 0 } : Room) (va_Pc [.long x] (fun _ => True)) (vp_Si (fun r : Int32 => r = nI (dg_c x.toInt.natAbs))) 0 0 (fun _ => False) := by
  refine Met.ofW (cc := cX0_countDigits) (maxL := 5) (ret := (some .int)) (by decide) rfl ?_
  intro p e s m args below meth c s₁ B hml hv
  obtain ⟨rfl, -⟩ := hv
  have hx := B.exec
  have hb := B.bytes
  have hr := B.returns
  have hts := atoms_spec (ws := wsX0_countDigits) B.pre
  have hown : s.vm.findClass RX0 = some m.cls := findClass_of_methodNamed B.named
  have hlocks := B.notSynchronized
  have hl := lv_entry ([.long x]) (n := 5) (Nat.le_of_ble_eq_true rfl)
  rw [lg_entry_eq]
  generalize (lg_sl ([.long x]) ++ List.replicate (5 - (lg_sl ([.long x])).length) Slot.unset).toArray = ls at hl ⊢
  have hl : lv_has ls 5 [(0, .long x)] := hl
  refine tl_q (fun Q hQ => ?_)
  refine lv_iconst (v := nI 1) hx hb dX0_countDigits_0 (by decide) ?_
  refine lv_istore_n (lv' := [(2, .int (nI 1)), (0, .long x)]) hx hb dX0_countDigits_1 rfl hl (by decide) rfl (fun ls hl => ?_)
  refine lv_lload_n hx hb dX0_countDigits_2 rfl (lv_at hl 1 rfl) ?_
  refine lv_ldc2 (v := (10 : Int64)) hx hb hown (hts _ (List.mem_cons_of_mem _ k76)) dX0_countDigits_3 ?_
  refine lv_ldiv hx hb dX0_countDigits_6 (by decide) ?_
  refine lv_lstore_n (lv' := [(3, .long (x / ((10 : Int64)))), (2, .int (nI 1)), (0, .long x)]) hx hb dX0_countDigits_7 rfl hl (by decide) rfl (fun ls hl => ?_)
  have LP8 : ∀ (fu : Nat) (y : Int64) (cn : Nat) (ls : Array Slot), 19 - cn < fu → 1 ≤ cn → cn ≤ 19 → y.toInt.natAbs = x.toInt.natAbs / 10 ^ cn → cn = 1 ∨ 10 ^ (cn - 1) ≤ x.toInt.natAbs → lv_has ls 5 [(2, .int (nI cn)), (3, .long y)] → W p l e (headSpec wsX0_countDigits ({ frames := 0, cells := 0, slots := 0, locals := 0 } : Room)).room s m ([.long x] : List Value).toArray below meth c s.heap [] 0 0 Q (F0 m 8 ls []) := by
    intro fu
    induction fu with
    | zero => intro y cn ls hfu; exact absurd hfu (Nat.not_lt_zero _)
    | succ fu ih =>
      intro y cn ls hfu hc1 hc2 hy hc3 hl
      refine lv_lload_n hx hb dX0_countDigits_8 rfl (lv_at hl 1 rfl) ?_
      refine lv_lconst (v := (0 : Int64)) hx hb dX0_countDigits_9 (by decide) ?_
      refine W.lcmp hx hb dX0_countDigits_10 ?_
      refine lv_if_eq (tgt := 32) hx hb dX0_countDigits_11 rfl (fun h11 => ?_) (fun h11 => ?_)
      · skip
        have h11 := (tl_leq (show y.toInt = y.toInt from rfl) (show ((0 : Int64)).toInt = (0 : Int) from (by decide))).mp h11
        refine lv_iload_n hx hb dX0_countDigits_32 rfl (lv_at hl 0 rfl) ?_
        subst hQ
        exact W.iret (v := nI cn) hx hb hr (fun t ht hW => ⟨nI cn, rfl, (by rw [dg_c_uni hc1 (by omega) (by first | exact dg_less hy (by omega) | (have h19 : cn = 19 := (by omega); rw [h19]; exact dg_abs_lt x)) hc3]), ht⟩) (fun q h => absurd h List.not_mem_nil) dX0_countDigits_33
      · skip
        have h11 := (not_congr (tl_leq (show y.toInt = y.toInt from rfl) (show ((0 : Int64)).toInt = (0 : Int) from (by decide)))).mp h11
        refine lv_iload_n hx hb dX0_countDigits_14 rfl (lv_at hl 0 rfl) ?_
        refine lv_bipush (v := nI 19) hx hb dX0_countDigits_15 (by decide) ?_
        refine lv_icmp_ge (tgt := 32) hx hb dX0_countDigits_17 rfl (fun h17 => ?_) (fun h17 => ?_)
        · skip
          have h17 := (tl_le (show (nI 19).toInt = (19 : Int) from (by decide)) (show (nI cn).toInt = ((cn : Nat) : Int) from (nI_toInt (by omega)))).mp h17
          refine lv_iload_n hx hb dX0_countDigits_32 rfl (lv_at hl 0 rfl) ?_
          subst hQ
          exact W.iret (v := nI cn) hx hb hr (fun t ht hW => ⟨nI cn, rfl, (by rw [dg_c_uni hc1 (by omega) (by first | exact dg_less hy (by omega) | (have h19 : cn = 19 := (by omega); rw [h19]; exact dg_abs_lt x)) hc3]), ht⟩) (fun q h => absurd h List.not_mem_nil) dX0_countDigits_33
        · skip
          have h17 := (not_congr (tl_le (show (nI 19).toInt = (19 : Int) from (by decide)) (show (nI cn).toInt = ((cn : Nat) : Int) from (nI_toInt (by omega))))).mp h17
          refine lv_iinc (lv' := [(2, .int (nI (cn + 1))), (3, .long y)]) (k := 0) (v := nI (cn + 1)) hx hb dX0_countDigits_20 hl rfl (tl_inc1 _) (by decide) rfl (fun ls hl => ?_)
          refine lv_lload_n hx hb dX0_countDigits_23 rfl (lv_at hl 1 rfl) ?_
          refine lv_ldc2 (v := (10 : Int64)) hx hb hown (hts _ (List.mem_cons_of_mem _ k76)) dX0_countDigits_24 ?_
          refine lv_ldiv hx hb dX0_countDigits_27 (by decide) ?_
          refine lv_lstore_n (lv' := [(3, .long (y / ((10 : Int64)))), (2, .int (nI (cn + 1)))]) hx hb dX0_countDigits_28 rfl hl (by decide) rfl (fun ls hl => ?_)
          refine lv_goto (tgt := 8) hx hb dX0_countDigits_29 rfl ?_
          exact ih (y / (10 : Int64)) (cn + 1) ls (by omega) (by omega) (by omega) (by rw [dg_div, hy, Nat.div_div_eq_div_mul, Nat.pow_succ]) (dg_more hy (by omega)) (lv_sub hl [1, 0] rfl)
  exact LP8 _ (x / (10 : Int64)) 1 ls (Nat.lt_succ_self _) (by omega) (by omega) (by rw [dg_div, Nat.pow_one]) (by exact Or.inl rfl) (lv_sub hl [1, 0] rfl)
set_option maxHeartbeats 4000000 in
set_option maxRecDepth 100000 in
theorem c_X_scrapStandsAt (l : Launch) (dC : Nat → ClassId) (dI : Nat → Nat → Nat) (h0 q0 q1 n k : Nat) (cA cB : ClassId) (T G T0 G0 : Nat → Int32) (hT : ∀ j, j < n → T j = T0 j) (hG : ∀ j, j < k → G j = G0 j) (hn : n ≤ 3000) (hk : k ≤ 40) (a : Nat) (hak : a + k ≤ n) : Met l yX0_scrapStandsAt wsX0_scrapStandsAt ({ frames := 0, cells := 0, slots := 0, locals := 0 } : Room) (va_Pc [.ref h0, .int (nI a)] (fun U => va_P (dC, dI) vwCl [(h0, .inr (0, [.ref q0, .ref q1, .int (nI n), .int (nI k)])), (q0, .inl (cA, 3000, .inl T)), (q1, .inl (cB, 40, .inl G))] U.heap ∧ va_K (dC, dI) vwCl [(cA, .int), (cB, .int)] U)) (vp_Si (fun r : Int32 => (r = 1 ∧ (∀ j, j < k → (T0 (a + j)).toInt = (G0 j).toInt)) ∨ (r = 0 ∧ ¬ (∀ j, j < k → (T0 (a + j)).toInt = (G0 j).toInt)))) 0 0 (fun _ => False) := by
  refine Met.ofW (cc := cX0_scrapStandsAt) (maxL := 3) (ret := (some .boolean)) (by decide) rfl ?_
  intro p e s m args below meth c s₁ B hml hv
  obtain ⟨rfl, hP, hK⟩ := hv
  have hx := B.exec
  have hb := B.bytes
  have hr := B.returns
  have hts := atoms_spec (ws := wsX0_scrapStandsAt) B.pre
  have hown : s.vm.findClass RX0 = some m.cls := findClass_of_methodNamed B.named
  have hlocks := B.notSynchronized
  have hP : va_P (dC, dI) vwCl [(h0, .inr (0, [.ref q0, .ref q1, .int (nI n), .int (nI k)])), (q0, .inl (cA, 3000, .inl T)), (q1, .inl (cB, 40, .inl G))] s.heap := hP
  have hinX0 : ∀ w ∈ u_ws RX0 TX0 4, w ∈ wsX0_scrapStandsAt := fun w h => List.mem_cons_of_mem _ (inX0 w h)
  have hl := lv_entry ([.ref h0, .int (nI a)]) (n := 3) (Nat.le_of_ble_eq_true rfl)
  rw [lg_entry_eq]
  generalize (lg_sl ([.ref h0, .int (nI a)]) ++ List.replicate (3 - (lg_sl ([.ref h0, .int (nI a)])).length) Slot.unset).toArray = ls at hl ⊢
  have hl : lv_has ls 3 [(0, .ref h0), (1, .int (nI a))] := hl
  refine tl_q (fun Q hQ => ?_)
  refine lv_iconst (v := nI 0) hx hb dX0_scrapStandsAt_0 (by decide) ?_
  refine lv_istore_n (lv' := [(2, .int (nI 0)), (0, .ref h0), (1, .int (nI a))]) hx hb dX0_scrapStandsAt_1 rfl hl (by decide) rfl (fun ls hl => ?_)
  have LP2 : ∀ (fu : Nat) (j : Nat) (ls : Array Slot), k - j < fu → j ≤ k → (∀ i, i < j → (T0 (a + i)).toInt = (G0 i).toInt) → lv_has ls 3 [(0, .ref h0), (1, .int (nI a)), (2, .int (nI j))] → W p l e (headSpec wsX0_scrapStandsAt ({ frames := 0, cells := 0, slots := 0, locals := 0 } : Room)).room s m ([.ref h0, .int (nI a)] : List Value).toArray below meth c s.heap [] 0 0 Q (F0 m 2 ls []) := by
    intro fu
    induction fu with
    | zero => intro j ls hfu; exact absurd hfu (Nat.not_lt_zero _)
    | succ fu ih =>
      intro j ls hfu hj hi hl
      refine lv_iload_n hx hb dX0_scrapStandsAt_2 rfl (lv_at hl 2 rfl) ?_
      refine lv_aload_n hx hb dX0_scrapStandsAt_3 rfl (lv_at hl 0 rfl) ?_
      refine va_get (D := (dC, dI)) (ci := 0) (v := .int (nI k)) (C := RX0) (T := TX0) (N := 4) hx hb hts hinX0 hown hK hP 0 rfl rfl 3 (by decide) (hts _ (List.mem_cons_of_mem _ k40)) (fun _ h9 => h9) rfl dX0_scrapStandsAt_4 ?_
      refine lv_icmp_ge (tgt := 35) hx hb dX0_scrapStandsAt_7 rfl (fun h7 => ?_) (fun h7 => ?_)
      · skip
        have h7 := (tl_le (show (nI k).toInt = ((k : Nat) : Int) from (nI_toInt (by omega))) (show (nI j).toInt = ((j : Nat) : Int) from (nI_toInt (by omega)))).mp h7
        refine lv_iconst (v := nI 1) hx hb dX0_scrapStandsAt_35 (by decide) ?_
        subst hQ
        exact W.zret (v := nI 1) hx hb hr (by decide) (fun t ht hW => ⟨nI 1, rfl, (Or.inl ⟨by decide, fun i hi2 => hi i (by omega)⟩), ht⟩) (fun q h => absurd h List.not_mem_nil) dX0_scrapStandsAt_36
      · skip
        have h7 := (not_congr (tl_le (show (nI k).toInt = ((k : Nat) : Int) from (nI_toInt (by omega))) (show (nI j).toInt = ((j : Nat) : Int) from (nI_toInt (by omega))))).mp h7
        refine lv_aload_n hx hb dX0_scrapStandsAt_10 rfl (lv_at hl 0 rfl) ?_
        refine va_get (D := (dC, dI)) (ci := 0) (v := .ref q0) (C := RX0) (T := TX0) (N := 4) hx hb hts hinX0 hown hK hP 0 rfl rfl 0 (by decide) (hts _ (List.mem_cons_of_mem _ k37)) (fun _ h9 => h9) rfl dX0_scrapStandsAt_11 ?_
        refine lv_iload_n hx hb dX0_scrapStandsAt_14 rfl (lv_at hl 1 rfl) ?_
        refine lv_iload_n hx hb dX0_scrapStandsAt_15 rfl (lv_at hl 2 rfl) ?_
        refine lv_iadd hx hb dX0_scrapStandsAt_16 ?_
        refine tl_top (nI_add _ _) ?_
        refine tl_iald (v := T0 (a + j)) hx hb hK hP 1 0 rfl rfl (by omega) (by decide) (hT _ (by omega)) dX0_scrapStandsAt_17 ?_
        refine lv_aload_n hx hb dX0_scrapStandsAt_18 rfl (lv_at hl 0 rfl) ?_
        refine va_get (D := (dC, dI)) (ci := 0) (v := .ref q1) (C := RX0) (T := TX0) (N := 4) hx hb hts hinX0 hown hK hP 0 rfl rfl 1 (by decide) (hts _ (List.mem_cons_of_mem _ k38)) (fun _ h9 => h9) rfl dX0_scrapStandsAt_19 ?_
        refine lv_iload_n hx hb dX0_scrapStandsAt_22 rfl (lv_at hl 2 rfl) ?_
        refine tl_iald (v := G0 j) hx hb hK hP 2 1 rfl rfl (by omega) (by decide) (hG _ (by omega)) dX0_scrapStandsAt_23 ?_
        refine lv_icmp_eq (tgt := 29) hx hb dX0_scrapStandsAt_24 rfl (fun h24 => ?_) (fun h24 => ?_)
        · skip
          have h24 := (tl_eq (show (T0 (a + j)).toInt = (T0 (a + j)).toInt from rfl) (show (G0 j).toInt = (G0 j).toInt from rfl)).mp h24
          refine lv_iinc (lv' := [(2, .int (nI (j + 1))), (0, .ref h0), (1, .int (nI a))]) (k := 2) (v := nI (j + 1)) hx hb dX0_scrapStandsAt_29 hl rfl (tl_inc1 _) (by decide) rfl (fun ls hl => ?_)
          refine lv_goto (tgt := 2) hx hb dX0_scrapStandsAt_32 rfl ?_
          exact ih (j + 1) ls (by omega) (by omega) (lt_s hi h24) (lv_sub hl [1, 2, 0] rfl)
        · skip
          have h24 := (not_congr (tl_eq (show (T0 (a + j)).toInt = (T0 (a + j)).toInt from rfl) (show (G0 j).toInt = (G0 j).toInt from rfl))).mp h24
          refine lv_iconst (v := nI 0) hx hb dX0_scrapStandsAt_27 (by decide) ?_
          subst hQ
          exact W.zret (v := nI 0) hx hb hr (by decide) (fun t ht hW => ⟨nI 0, rfl, (Or.inr ⟨by decide, fun q => h24 (q j (by omega))⟩), ht⟩) (fun q h => absurd h List.not_mem_nil) dX0_scrapStandsAt_28
  exact LP2 _ 0 ls (Nat.lt_succ_self _) (by omega) (by intro i hi; omega) (lv_sub hl [1, 2, 0] rfl)
set_option maxHeartbeats 4000000 in
set_option maxRecDepth 100000 in
theorem c_X_sumOfText (l : Launch) (dC : Nat → ClassId) (dI : Nat → Nat → Nat) (h0 q0 q1 n k : Nat) (cA cB : ClassId) (T G T0 G0 : Nat → Int32) (hT : ∀ j, j < n → T j = T0 j) (hG : ∀ j, j < k → G j = G0 j) (hn : n ≤ 3000) (hk : k ≤ 40)  : Met l yX0_sumOfText wsX0_sumOfText ({ frames := 0, cells := 0, slots := 0, locals := 0 } : Room) (va_Pc [.ref h0] (fun U => va_P (dC, dI) vwCl [(h0, .inr (0, [.ref q0, .ref q1, .int (nI n), .int (nI k)])), (q0, .inl (cA, 3000, .inl T)), (q1, .inl (cB, 40, .inl G))] U.heap ∧ va_K (dC, dI) vwCl [(cA, .int), (cB, .int)] U)) (vp_Si (fun r : Int32 => r = tl_sum T0 n)) 0 0 (fun _ => False) := by
  refine Met.ofW (cc := cX0_sumOfText) (maxL := 3) (ret := (some .int)) (by decide) rfl ?_
  intro p e s m args below meth c s₁ B hml hv
  obtain ⟨rfl, hP, hK⟩ := hv
  have hx := B.exec
  have hb := B.bytes
  have hr := B.returns
  have hts := atoms_spec (ws := wsX0_sumOfText) B.pre
  have hown : s.vm.findClass RX0 = some m.cls := findClass_of_methodNamed B.named
  have hlocks := B.notSynchronized
  have hP : va_P (dC, dI) vwCl [(h0, .inr (0, [.ref q0, .ref q1, .int (nI n), .int (nI k)])), (q0, .inl (cA, 3000, .inl T)), (q1, .inl (cB, 40, .inl G))] s.heap := hP
  have hinX0 : ∀ w ∈ u_ws RX0 TX0 4, w ∈ wsX0_sumOfText := fun w h => List.mem_cons_of_mem _ (inX0 w h)
  have hl := lv_entry ([.ref h0]) (n := 3) (Nat.le_of_ble_eq_true rfl)
  rw [lg_entry_eq]
  generalize (lg_sl ([.ref h0]) ++ List.replicate (3 - (lg_sl ([.ref h0])).length) Slot.unset).toArray = ls at hl ⊢
  have hl : lv_has ls 3 [(0, .ref h0)] := hl
  refine tl_q (fun Q hQ => ?_)
  refine lv_iconst (v := nI 0) hx hb dX0_sumOfText_0 (by decide) ?_
  refine lv_istore_n (lv' := [(1, .int (nI 0)), (0, .ref h0)]) hx hb dX0_sumOfText_1 rfl hl (by decide) rfl (fun ls hl => ?_)
  refine lv_iconst (v := nI 0) hx hb dX0_sumOfText_2 (by decide) ?_
  refine lv_istore_n (lv' := [(2, .int (nI 0)), (1, .int (nI 0)), (0, .ref h0)]) hx hb dX0_sumOfText_3 rfl hl (by decide) rfl (fun ls hl => ?_)
  have LP4 : ∀ (fu : Nat) (j : Nat) (ls : Array Slot), n - j < fu → j ≤ n → lv_has ls 3 [(0, .ref h0), (1, .int (tl_sum T0 j)), (2, .int (nI j))] → W p l e (headSpec wsX0_sumOfText ({ frames := 0, cells := 0, slots := 0, locals := 0 } : Room)).room s m ([.ref h0] : List Value).toArray below meth c s.heap [] 0 0 Q (F0 m 4 ls []) := by
    intro fu
    induction fu with
    | zero => intro j ls hfu; exact absurd hfu (Nat.not_lt_zero _)
    | succ fu ih =>
      intro j ls hfu hj hl
      refine lv_iload_n hx hb dX0_sumOfText_4 rfl (lv_at hl 2 rfl) ?_
      refine lv_aload_n hx hb dX0_sumOfText_5 rfl (lv_at hl 0 rfl) ?_
      refine va_get (D := (dC, dI)) (ci := 0) (v := .int (nI n)) (C := RX0) (T := TX0) (N := 4) hx hb hts hinX0 hown hK hP 0 rfl rfl 2 (by decide) (hts _ (List.mem_cons_of_mem _ k39)) (fun _ h9 => h9) rfl dX0_sumOfText_6 ?_
      refine lv_icmp_ge (tgt := 31) hx hb dX0_sumOfText_9 rfl (fun h9 => ?_) (fun h9 => ?_)
      · skip
        have h9 := (tl_le (show (nI n).toInt = ((n : Nat) : Int) from (nI_toInt (by omega))) (show (nI j).toInt = ((j : Nat) : Int) from (nI_toInt (by omega)))).mp h9
        refine lv_iload_n hx hb dX0_sumOfText_31 rfl (lv_at hl 1 rfl) ?_
        subst hQ
        exact W.iret (v := tl_sum T0 j) hx hb hr (fun t ht hW => ⟨tl_sum T0 j, rfl, (by rw [show j = n by omega]), ht⟩) (fun q h => absurd h List.not_mem_nil) dX0_sumOfText_32
      · skip
        have h9 := (not_congr (tl_le (show (nI n).toInt = ((n : Nat) : Int) from (nI_toInt (by omega))) (show (nI j).toInt = ((j : Nat) : Int) from (nI_toInt (by omega))))).mp h9
        refine lv_iload_n hx hb dX0_sumOfText_12 rfl (lv_at hl 1 rfl) ?_
        refine lv_iload_n hx hb dX0_sumOfText_13 rfl (lv_at hl 2 rfl) ?_
        refine lv_iconst (v := nI 1) hx hb dX0_sumOfText_14 (by decide) ?_
        refine lv_iadd hx hb dX0_sumOfText_15 ?_
        refine tl_top (nI_add _ _) ?_
        refine lv_aload_n hx hb dX0_sumOfText_16 rfl (lv_at hl 0 rfl) ?_
        refine va_get (D := (dC, dI)) (ci := 0) (v := .ref q0) (C := RX0) (T := TX0) (N := 4) hx hb hts hinX0 hown hK hP 0 rfl rfl 0 (by decide) (hts _ (List.mem_cons_of_mem _ k37)) (fun _ h9 => h9) rfl dX0_sumOfText_17 ?_
        refine lv_iload_n hx hb dX0_sumOfText_20 rfl (lv_at hl 2 rfl) ?_
        refine tl_iald (v := T0 j) hx hb hK hP 1 0 rfl rfl (by omega) (by decide) (hT _ (by omega)) dX0_sumOfText_21 ?_
        refine lv_imul hx hb dX0_sumOfText_22 ?_
        refine lv_iadd hx hb dX0_sumOfText_23 ?_
        refine tl_top (y := tl_sum T0 (j + 1)) (rfl) ?_
        refine lv_istore_n (lv' := [(1, .int (tl_sum T0 (j + 1))), (0, .ref h0), (2, .int (nI j))]) hx hb dX0_sumOfText_24 rfl hl (by decide) rfl (fun ls hl => ?_)
        refine lv_iinc (lv' := [(2, .int (nI (j + 1))), (1, .int (tl_sum T0 (j + 1))), (0, .ref h0)]) (k := 2) (v := nI (j + 1)) hx hb dX0_sumOfText_25 hl rfl (tl_inc1 _) (by decide) rfl (fun ls hl => ?_)
        refine lv_goto (tgt := 4) hx hb dX0_sumOfText_28 rfl ?_
        exact ih (j + 1) ls (by omega) (by omega) (lv_sub hl [2, 1, 0] rfl)
  exact LP4 _ 0 ls (Nat.lt_succ_self _) (by omega) (lv_sub hl [2, 1, 0] rfl)
end
section
set_option maxHeartbeats 4000000 in
set_option maxRecDepth 100000 in
theorem c_X_putDigits (l : Launch) (dC : Nat → ClassId) (dI : Nat → Nat → Nat) (h0 q0 q1 sz n k : Nat) (cA cB : ClassId) (T G T0 G0 : Nat → Int32) (hT : ∀ j, j < n → T j = T0 j) (hG : ∀ j, j < k → G j = G0 j) (hn : n ≤ 3000) (hk : k ≤ 40) (a : Nat) (x : Int64) (han : a ≤ n) : Met l yX0_putDigits wsX0_putDigits ({ frames := 2, cells := 0, slots := 0, locals := 44 } : Room) (va_Pc [.ref h0, .int (nI a), .long x] (fun U => U.heap.size = sz ∧ va_P (dC, dI) vwCl [(h0, .inr (0, [.ref q0, .ref q1, .int (nI n), .int (nI k)])), (q0, .inl (cA, 3000, .inl T)), (q1, .inl (cB, 40, .inl G))] U.heap ∧ va_K (dC, dI) vwCl [(cA, .int), (cB, .int)] U ∧ va_D (fun _ => True) [(h0, .inr (0, [.ref q0, .ref q1, .int (nI n), .int (nI k)])), (q0, .inl (cA, 3000, .inl T)), (q1, .inl (cB, 40, .inl G))])) (va_Qi (fun (r : Int32) (u : tS) => r = (sp_put a a (dg_w x) (dg_m x) n T0 k G0).1 ∧ tE u (sp_put a a (dg_w x) (dg_m x) n T0 k G0).2) (at_X dC dI (va_A [(h0, .inr (0, [.ref q0, .ref q1, .int (nI n), .int (nI k)])), (q0, .inl (cA, 3000, .inl T)), (q1, .inl (cB, 40, .inl G))] sz) h0 q0 q1 cA cB) (va_A [(h0, .inr (0, [.ref q0, .ref q1, .int (nI n), .int (nI k)])), (q0, .inl (cA, 3000, .inl T)), (q1, .inl (cB, 40, .inl G))] sz)) 0 0 (va_A [(h0, .inr (0, [.ref q0, .ref q1, .int (nI n), .int (nI k)])), (q0, .inl (cA, 3000, .inl T)), (q1, .inl (cB, 40, .inl G))] sz) := by
  refine Met.ofW (cc := cX0_putDigits) (maxL := 9) (ret := (some .int)) (by decide) rfl ?_
  intro p e s m args below meth c s₁ B hml hv
  obtain ⟨rfl, hsz, hP, hK, hD0⟩ := hv
  have hx := B.exec
  have hb := B.bytes
  have hr := B.returns
  have hts := atoms_spec (ws := wsX0_putDigits) B.pre
  have hown : s.vm.findClass RX0 = some m.cls := findClass_of_methodNamed B.named
  have hlocks := B.notSynchronized
  subst hsz
  have hD := hD0.self (sz := s.heap.size)
  generalize hAe : va_A [(h0, .inr (0, [.ref q0, .ref q1, .int (nI n), .int (nI k)])), (q0, .inl (cA, 3000, .inl T)), (q1, .inl (cB, 40, .inl G))] s.heap.size = A at hD ⊢
  have hA : ∀ q : Nat, s.heap.size ≤ q → A q := fun q h => by rw [← hAe]; exact Or.inr h
  have hS : va_S A s.heap s.heap [] := va_S.rf
  have hP : va_P (dC, dI) vwCl [(h0, .inr (0, [.ref q0, .ref q1, .int (nI n), .int (nI k)])), (q0, .inl (cA, 3000, .inl T)), (q1, .inl (cB, 40, .inl G))] s.heap := hP
  have hinX0 : ∀ w ∈ u_ws RX0 TX0 4, w ∈ wsX0_putDigits := fun w h => List.mem_cons_of_mem _ (inX0 w h)
  have hm20 := dg_m_le x
  have hm1 := dg_m_pos x
  have hc20 := dg_c_le x
  have hl := lv_entry ([.ref h0, .int (nI a), .long x]) (n := 9) (Nat.le_of_ble_eq_true rfl)
  rw [lg_entry_eq]
  generalize (lg_sl ([.ref h0, .int (nI a), .long x]) ++ List.replicate (9 - (lg_sl ([.ref h0, .int (nI a), .long x])).length) Slot.unset).toArray = ls at hl ⊢
  have hl : lv_has ls 9 [(0, .ref h0), (1, .int (nI a)), (2, .long x)] := hl
  refine tl_q (fun Q hQ => ?_)
  refine lv_lload_n hx hb dX0_putDigits_0 rfl (lv_at hl 2 rfl) ?_
  refine lv_lconst (v := (0 : Int64)) hx hb dX0_putDigits_1 (by decide) ?_
  refine W.lcmp hx hb dX0_putDigits_2 ?_
  refine lv_if_ge (tgt := 10) hx hb dX0_putDigits_3 rfl (fun h3 => ?_) (fun h3 => ?_)
  · skip
    have h3 := (tl_lge (show x.toInt = x.toInt from rfl) (show ((0 : Int64)).toInt = (0 : Int) from (by decide))).mp h3
    refine lv_iconst (v := nI 0) hx hb dX0_putDigits_10 (by decide) ?_
    refine lv_istore (lv' := [(4, .int (nI 0)), (0, .ref h0), (1, .int (nI a)), (2, .long x)]) hx hb dX0_putDigits_11 hl (by decide) rfl (fun ls hl => ?_)
    refine lv_iload hx hb dX0_putDigits_13 (lv_at hl 0 rfl) ?_
    refine lv_lload_n hx hb dX0_putDigits_15 rfl (lv_at hl 3 rfl) ?_
    refine vp_callSi ((va_runS (As := [.long x]) (rest := [.int (nI 0)]) ⟨hx, hb, hml, hown, hts⟩ (c_X_countDigits l x) (va_cwS 1 hts (gS_ (fun w h => List.mem_cons_of_mem _ h) k73 k74 k21 k75) rfl rfl rfl (by decide +kernel) ⟨Nat.le_of_ble_eq_true rfl, Nat.le_of_ble_eq_true rfl⟩) ⟨fun a U g mk q => q, fun U hU hW => ⟨rfl, trivial⟩⟩ rfl rfl hl.1 rfl (lv_room (Nat.le_of_ble_eq_true rfl)) dX0_putDigits_16 ⟨Nat.le_of_ble_eq_true rfl, Nat.le_of_ble_eq_true rfl⟩).run) (fun r16 w16 => ?_)
    try dsimp only at w16
    subst w16
    refine lv_iadd hx hb dX0_putDigits_19 ?_
    refine tl_top (y := nI (dg_m x)) (by rw [nI_add]; congr 1; unfold dg_m; rw [if_neg (by omega)]; omega) ?_
    refine lv_istore (lv' := [(5, .int (nI (dg_m x))), (4, .int (nI 0)), (0, .ref h0), (1, .int (nI a)), (2, .long x)]) hx hb dX0_putDigits_20 hl (by decide) rfl (fun ls hl => ?_)
    refine lv_aload_n hx hb dX0_putDigits_22 rfl (lv_at hl 2 rfl) ?_
    refine lv_iload hx hb dX0_putDigits_23 (lv_at hl 0 rfl) ?_
    have ea25_0 : (nI (dg_m x)).toInt = ((dg_m x : Nat) : Int) := (nI_toInt (by omega))
    refine vp_callSi ((va_runV (As := [.int (nI (dg_m x))]) (rest := []) ⟨hx, hb, hml, hown, hts⟩ (c_X_hasRoom l dC dI h0 q0 q1 n k cA cB T G T0 G0 hT hG hn hk (nI (dg_m x)) (by omega) (by omega)) (cwV 1 hts (gV_ (fun w h => List.mem_cons_of_mem _ h) k77 k79 k1 k21 k80) rfl rfl rfl (by decide +kernel) ⟨Nat.le_of_ble_eq_true rfl, Nat.le_of_ble_eq_true rfl⟩) ⟨fun a U g mk q => by obtain ⟨q0, qP, qK⟩ := q; exact ⟨q0, qP, va_K.moved (u := U) (U := U.calling g mk a) (Vm.Alike.refl U.vm) qK⟩, va_recv hK hP (ci := 0) (q0 := 0) rfl rfl, fun U hU hW => ⟨rfl, by rw [hU]; exact hP, va_K.moved hW.alike hK⟩⟩ rfl rfl hl.1 rfl (lv_room (Nat.le_of_ble_eq_true rfl)) dX0_putDigits_25 ⟨Nat.le_of_ble_eq_true rfl, Nat.le_of_ble_eq_true rfl⟩).run) (fun r25 w25 => ?_)
    try dsimp only at w25
    refine lv_if_ne (tgt := 34) hx hb dX0_putDigits_28 rfl (fun h28 => ?_) (fun h28 => ?_)
    · skip
      have h28 := (tl_b1 w25).mp h28
      refine lv_aload_n hx hb dX0_putDigits_34 rfl (lv_at hl 2 rfl) ?_
      refine lv_iload_n hx hb dX0_putDigits_35 rfl (lv_at hl 3 rfl) ?_
      refine lv_iload_n hx hb dX0_putDigits_36 rfl (lv_at hl 3 rfl) ?_
      refine lv_iload hx hb dX0_putDigits_37 (lv_at hl 0 rfl) ?_
      have hPc := hP.sub (ws' := [(h0, .inr (0, [.ref q0, .ref q1, .int (nI n), .int (nI k)])), (q0, .inl (cA, 3000, .inl T)), (q1, .inl (cB, 40, .inl G))]) [0, 1, 2] rfl
      have hDc := hD.sub (ws' := [(h0, .inr (0, [.ref q0, .ref q1, .int (nI n), .int (nI k)])), (q0, .inl (cA, 3000, .inl T)), (q1, .inl (cB, 40, .inl G))]) [0, 1, 2] (by decide) rfl
      have hKc := hK
      have hFc := va_free (wc := [(h0, .inr (0, [.ref q0, .ref q1, .int (nI n), .int (nI k)])), (q0, .inl (cA, 3000, .inl T)), (q1, .inl (cB, 40, .inl G))]) hD hS hA [0, 1, 2] rfl
      refine va_callv (va_runV (As := [.int (nI a), .int (nI a), .int (nI (dg_m x))]) (rest := []) ⟨hx, hb, hml, hown, hts⟩ (c_X_makeGap l dC dI h0 q0 q1 s.heap.size n k cA cB T G T0 G0 hT hG hn hk a a (dg_m x) (by omega) (by omega) (by omega)) (cwV 3 hts (gV_ (fun w h => List.mem_cons_of_mem _ h) k81 k83 k2 k21 k84) rfl rfl rfl (by decide +kernel) ⟨Nat.le_of_ble_eq_true rfl, Nat.le_of_ble_eq_true rfl⟩) ⟨fun a U g mk q => by obtain ⟨q0, q1, qP, qK, qD⟩ := q; exact ⟨q0, q1, qP, va_K.moved (u := U) (U := U.calling g mk a) (Vm.Alike.refl U.vm) qK, qD⟩, va_recv hKc hPc (ci := 0) (q0 := 0) rfl rfl, fun U hU hW => ⟨rfl, by rw [hU], by rw [hU]; exact hPc, va_K.moved hW.alike hKc, hDc.weaken (fun _ _ _ _ => trivial)⟩⟩ rfl rfl hl.1 rfl (lv_room (Nat.le_of_ble_eq_true rfl)) dX0_putDigits_39 ⟨Nat.le_of_ble_eq_true rfl, Nat.le_of_ble_eq_true rfl⟩) hS (fun q _ h => hFc q h) hFc (fun u39 t H locs ht hvm w39 hB hz1 hk1 hS => ?_)
      try dsimp only at w39
      subst w39
      obtain ⟨hP1, hK1, hD1⟩ := hB
      rw [ht] at hP1
      obtain ⟨hP, hD⟩ := va_join (wr := []) (w1 := [(h0, .inr (0, [.ref q0, .ref q1, .int (nI (n - (a - a) + (dg_m x))), .int (nI k)])), (q0, .inl (cA, 3000, .inl (va_cpy T T a (a + (dg_m x)) (n - a)))), (q1, .inl (cB, 40, .inl G))]) hP hD [0, 1, 2] [] rfl rfl (by decide) (by decide) hk1 hFc hP1 hD1
      have hP : va_P (dC, dI) vwCl [(h0, .inr (0, [.ref q0, .ref q1, .int (nI (n - (a - a) + (dg_m x))), .int (nI k)])), (q0, .inl (cA, 3000, .inl (va_cpy T T a (a + (dg_m x)) (n - a)))), (q1, .inl (cB, 40, .inl G))] H := hP
      have hD : va_D A [(h0, .inr (0, [.ref q0, .ref q1, .int (nI (n - (a - a) + (dg_m x))), .int (nI k)])), (q0, .inl (cA, 3000, .inl (va_cpy T T a (a + (dg_m x)) (n - a)))), (q1, .inl (cB, 40, .inl G))] := hD
      refine lv_iload hx hb dX0_putDigits_42 (lv_at hl 1 rfl) ?_
      refine lv_iconst (v := nI 1) hx hb dX0_putDigits_44 (by decide) ?_
      refine lv_icmp_ne (tgt := 56) hx hb dX0_putDigits_45 rfl (fun h45 => ?_) (fun h45 => ?_)
      · skip
        have h45 := (not_congr (tl_eq (show (nI 0).toInt = (0 : Int) from (by decide)) (show (nI 1).toInt = (1 : Int) from (by decide)))).mp h45
        refine lv_lload_n hx hb dX0_putDigits_56 rfl (lv_at hl 4 rfl) ?_
        refine lv_lstore (lv' := [(6, .long x), (5, .int (nI (dg_m x))), (4, .int (nI 0)), (0, .ref h0), (1, .int (nI a)), (2, .long x)]) hx hb dX0_putDigits_57 hl (by decide) rfl (fun ls hl => ?_)
        refine lv_iload hx hb dX0_putDigits_59 (lv_at hl 1 rfl) ?_
        refine lv_iconst (v := nI 1) hx hb dX0_putDigits_61 (by decide) ?_
        refine lv_isub hx hb dX0_putDigits_62 ?_
        have e62 : ((nI (dg_m x)) - (nI 1)).toInt = ((dg_m x : Nat) : Int) - ((1 : Int)) := tl_subv (nI_toInt (by omega)) (by decide) (by omega) (by omega)
        refine lv_istore (lv' := [(8, .int ((nI (dg_m x)) - (nI 1))), (6, .long x), (5, .int (nI (dg_m x))), (4, .int (nI 0)), (0, .ref h0), (1, .int (nI a)), (2, .long x)]) hx hb dX0_putDigits_63 hl (by decide) rfl (fun ls hl => ?_)
        have LP65 : ∀ (fu : Nat) (j : Nat) (y : Int64) (F : Nat → Int32) (H : Heap) (locs : List Loc) (ls : Array Slot), j < fu → j ≤ dg_m x → 0 ≤ j → y.toInt.natAbs = x.toInt.natAbs / 10 ^ (dg_m x - j) → (∀ i, i < n - (a - a) + dg_m x → (i < a ∨ a + j ≤ i) → F i = tl_rep T0 a a (dg_w x) (dg_m x) i) → lv_has ls 9 [(0, .ref h0), (1, .int (nI a)), (4, .int (nI 0)), (5, .int (nI (dg_m x))), (6, .long y), (8, .int (nI j - nI 1))] → va_P (dC, dI) vwCl [(h0, .inr (0, [.ref q0, .ref q1, .int (nI (n - (a - a) + (dg_m x))), .int (nI k)])), (q0, .inl (cA, 3000, .inl F)), (q1, .inl (cB, 40, .inl G))] H → va_D A [(h0, .inr (0, [.ref q0, .ref q1, .int (nI (n - (a - a) + (dg_m x))), .int (nI k)])), (q0, .inl (cA, 3000, .inl F)), (q1, .inl (cB, 40, .inl G))] → va_S A s.heap H locs → W p l e (headSpec wsX0_putDigits ({ frames := 2, cells := 0, slots := 0, locals := 44 } : Room)).room s m ([.ref h0, .int (nI a), .long x] : List Value).toArray below meth c H locs 0 0 Q (F0 m 65 ls []) := by
          intro fu
          induction fu with
          | zero => intro j y F H locs ls hfu; exact absurd hfu (Nat.not_lt_zero _)
          | succ fu ih =>
            intro j y F H locs ls hfu hj1 hj2 hy hF hl hP hD hS
            refine lv_iload hx hb dX0_putDigits_65 (lv_at hl 5 rfl) ?_
            refine lv_iload hx hb dX0_putDigits_67 (lv_at hl 2 rfl) ?_
            refine lv_icmp_lt (tgt := 108) hx hb dX0_putDigits_69 rfl (fun h69 => ?_) (fun h69 => ?_)
            · skip
              have h69 := (tl_lt (show (nI j - nI 1).toInt = ((j : Int) - 1) from (tl_predv (by omega))) (show (nI 0).toInt = ((0 : Nat) : Int) from (nI_toInt (by omega)))).mp h69
              refine lv_aload_n hx hb dX0_putDigits_108 rfl (lv_at hl 0 rfl) ?_
              refine va_get (D := (dC, dI)) (ci := 0) (v := .int (nI (n - (a - a) + (dg_m x)))) (C := RX0) (T := TX0) (N := 4) hx hb hts hinX0 hown hK hP 0 rfl rfl 2 (by decide) (hts _ (List.mem_cons_of_mem _ k39)) (fun _ h9 => h9) rfl dX0_putDigits_109 ?_
              subst hQ
              exact W.iret (v := nI (n - (a - a) + (dg_m x))) hx hb hr (fun t ht hW => ⟨⟨nI (n - (a - a) + (dg_m x)), (n - (a - a) + (dg_m x), F, k, G), rfl, (by unfold sp_put; rw [if_pos (by omega)]; exact ⟨rfl, tE_mk (fun i hi => hF i hi (by omega)) hG (by omega) hk⟩), by rw [ht]; exact hP, va_K.moved hW.alike hK, hD⟩, hS.F ht⟩) hS.2.2 dX0_putDigits_112
            · skip
              have h69 := (not_congr (tl_lt (show (nI j - nI 1).toInt = ((j : Int) - 1) from (tl_predv (by omega))) (show (nI 0).toInt = ((0 : Nat) : Int) from (nI_toInt (by omega))))).mp h69
              obtain ⟨i, rfl⟩ : ∃ i, j = i + 1 := ⟨j - 1, by omega⟩
              rw [show nI (i + 1) - nI 1 = nI i from pk_sub (by omega)] at hl
              have hl : lv_has ls 9 [(0, .ref h0), (1, .int (nI a)), (4, .int (nI 0)), (5, .int (nI (dg_m x))), (6, .long y), (8, .int (nI i))] := hl
              refine lv_aload_n hx hb dX0_putDigits_72 rfl (lv_at hl 0 rfl) ?_
              refine va_get (D := (dC, dI)) (ci := 0) (v := .ref q0) (C := RX0) (T := TX0) (N := 4) hx hb hts hinX0 hown hK hP 0 rfl rfl 0 (by decide) (hts _ (List.mem_cons_of_mem _ k37)) (fun _ h9 => h9) rfl dX0_putDigits_73 ?_
              refine lv_iload_n hx hb dX0_putDigits_76 rfl (lv_at hl 1 rfl) ?_
              refine lv_iload hx hb dX0_putDigits_77 (lv_at hl 5 rfl) ?_
              refine lv_iadd hx hb dX0_putDigits_79 ?_
              refine tl_top (nI_add _ _) ?_
              refine lv_bipush (v := nI 48) hx hb dX0_putDigits_80 (by decide) ?_
              refine lv_lload hx hb dX0_putDigits_82 (lv_at hl 4 rfl) ?_
              refine lv_ldc2 (v := (10 : Int64)) hx hb hown (hts _ (List.mem_cons_of_mem _ k76)) dX0_putDigits_84 ?_
              refine lv_lrem hx hb dX0_putDigits_87 (by decide) ?_
              refine lv_l2i hx hb dX0_putDigits_88 rfl ?_
              refine va_mabs hx hb (hml.trans hl.1.symm) hown (hts _ (List.mem_cons_of_mem _ k88)) (hts _ (List.mem_cons_of_mem _ k89)) (hts _ (List.mem_cons_of_mem _ k24)) (hts _ (List.mem_cons_of_mem _ k90)) (Nat.le_of_ble_eq_true rfl) (Nat.le_of_ble_eq_true rfl) (Nat.zero_le _) (Nat.zero_le _) dX0_putDigits_89 ?_
              refine tl_top (y := nI (x.toInt.natAbs / 10 ^ (dg_m x - (i + 1)) % 10)) (dg_dig hy) ?_
              refine lv_iadd hx hb dX0_putDigits_92 ?_
              refine tl_top (nI_add _ _) ?_
              refine tl_iast hx hb hK hP hD hS 1 0 rfl rfl (by omega) (by decide) dX0_putDigits_93 (fun H locs hP hD hS => ?_)
              have hP : va_P (dC, dI) vwCl [(h0, .inr (0, [.ref q0, .ref q1, .int (nI (n - (a - a) + (dg_m x))), .int (nI k)])), (q0, .inl (cA, 3000, .inl (upd F (a + i) (nI (48 + (x.toInt.natAbs / 10 ^ (dg_m x - (i + 1)) % 10)))))), (q1, .inl (cB, 40, .inl G))] H := hP
              have hD : va_D A [(h0, .inr (0, [.ref q0, .ref q1, .int (nI (n - (a - a) + (dg_m x))), .int (nI k)])), (q0, .inl (cA, 3000, .inl (upd F (a + i) (nI (48 + (x.toInt.natAbs / 10 ^ (dg_m x - (i + 1)) % 10)))))), (q1, .inl (cB, 40, .inl G))] := hD
              refine lv_lload hx hb dX0_putDigits_94 (lv_at hl 4 rfl) ?_
              refine lv_ldc2 (v := (10 : Int64)) hx hb hown (hts _ (List.mem_cons_of_mem _ k76)) dX0_putDigits_96 ?_
              refine lv_ldiv hx hb dX0_putDigits_99 (by decide) ?_
              refine lv_lstore (lv' := [(6, .long (y / ((10 : Int64)))), (0, .ref h0), (1, .int (nI a)), (4, .int (nI 0)), (5, .int (nI (dg_m x))), (8, .int (nI i))]) hx hb dX0_putDigits_100 hl (by decide) rfl (fun ls hl => ?_)
              refine lv_iinc (lv' := [(8, .int (nI i - nI 1)), (6, .long (y / ((10 : Int64)))), (0, .ref h0), (1, .int (nI a)), (4, .int (nI 0)), (5, .int (nI (dg_m x)))]) (k := 5) (v := nI i - nI 1) hx hb dX0_putDigits_102 hl rfl (tl_dec i) (by decide) rfl (fun ls hl => ?_)
              refine lv_goto (tgt := 65) hx hb dX0_putDigits_105 rfl ?_
              exact ih i (y / (10 : Int64)) (upd F (a + i) (nI (48 + (x.toInt.natAbs / 10 ^ (dg_m x - (i + 1)) % 10)))) _ _ ls (by omega) (by omega) (by omega) (dg_down hy (by omega)) (pu_dgsp (by omega) (by omega) (by omega) hF) (lv_sub hl [2, 3, 4, 5, 1, 0] rfl) hP hD hS
        exact LP65 _ (dg_m x) x (va_cpy T T a (a + (dg_m x)) (n - a)) _ _ ls (Nat.lt_succ_self _) (by omega) (by omega) (by rw [Nat.sub_self, Nat.pow_zero, Nat.div_one]) (fun i hi h => pu_gap hT han i hi h) (lv_sub hl [4, 5, 3, 2, 1, 0] rfl) hP hD hS
      · skip
        have h45 := (tl_eq (show (nI 0).toInt = (0 : Int) from (by decide)) (show (nI 1).toInt = (1 : Int) from (by decide))).mp h45
        exfalso; omega
    · skip
      have h28 := (tl_b0 w25).mp h28
      refine lv_bipush (v := (-3 : Int32)) hx hb dX0_putDigits_31 (by decide) ?_
      subst hQ
      exact W.iret (v := (-3 : Int32)) hx hb hr (fun t ht hW => ⟨⟨(-3 : Int32), (n, T, k, G), rfl, (by unfold sp_put; rw [if_neg (by omega)]; exact ⟨rfl, tE_mk hT hG hn hk⟩), by rw [ht]; exact hP, va_K.moved hW.alike hK, hD⟩, hS.F ht⟩) hS.2.2 dX0_putDigits_33
  · skip
    have h3 := (not_congr (tl_lge (show x.toInt = x.toInt from rfl) (show ((0 : Int64)).toInt = (0 : Int) from (by decide)))).mp h3
    refine lv_iconst (v := nI 1) hx hb dX0_putDigits_6 (by decide) ?_
    refine lv_goto (tgt := 11) hx hb dX0_putDigits_7 rfl ?_
    refine lv_istore (lv' := [(4, .int (nI 1)), (0, .ref h0), (1, .int (nI a)), (2, .long x)]) hx hb dX0_putDigits_11 hl (by decide) rfl (fun ls hl => ?_)
    refine lv_iload hx hb dX0_putDigits_13 (lv_at hl 0 rfl) ?_
    refine lv_lload_n hx hb dX0_putDigits_15 rfl (lv_at hl 3 rfl) ?_
    refine vp_callSi ((va_runS (As := [.long x]) (rest := [.int (nI 1)]) ⟨hx, hb, hml, hown, hts⟩ (c_X_countDigits l x) (va_cwS 1 hts (gS_ (fun w h => List.mem_cons_of_mem _ h) k73 k74 k21 k75) rfl rfl rfl (by decide +kernel) ⟨Nat.le_of_ble_eq_true rfl, Nat.le_of_ble_eq_true rfl⟩) ⟨fun a U g mk q => q, fun U hU hW => ⟨rfl, trivial⟩⟩ rfl rfl hl.1 rfl (lv_room (Nat.le_of_ble_eq_true rfl)) dX0_putDigits_16 ⟨Nat.le_of_ble_eq_true rfl, Nat.le_of_ble_eq_true rfl⟩).run) (fun r16 w16 => ?_)
    try dsimp only at w16
    subst w16
    refine lv_iadd hx hb dX0_putDigits_19 ?_
    refine tl_top (y := nI (dg_m x)) (by rw [nI_add]; congr 1; unfold dg_m; rw [if_pos (by omega)]; omega) ?_
    refine lv_istore (lv' := [(5, .int (nI (dg_m x))), (4, .int (nI 1)), (0, .ref h0), (1, .int (nI a)), (2, .long x)]) hx hb dX0_putDigits_20 hl (by decide) rfl (fun ls hl => ?_)
    refine lv_aload_n hx hb dX0_putDigits_22 rfl (lv_at hl 2 rfl) ?_
    refine lv_iload hx hb dX0_putDigits_23 (lv_at hl 0 rfl) ?_
    have ea25_0 : (nI (dg_m x)).toInt = ((dg_m x : Nat) : Int) := (nI_toInt (by omega))
    refine vp_callSi ((va_runV (As := [.int (nI (dg_m x))]) (rest := []) ⟨hx, hb, hml, hown, hts⟩ (c_X_hasRoom l dC dI h0 q0 q1 n k cA cB T G T0 G0 hT hG hn hk (nI (dg_m x)) (by omega) (by omega)) (cwV 1 hts (gV_ (fun w h => List.mem_cons_of_mem _ h) k77 k79 k1 k21 k80) rfl rfl rfl (by decide +kernel) ⟨Nat.le_of_ble_eq_true rfl, Nat.le_of_ble_eq_true rfl⟩) ⟨fun a U g mk q => by obtain ⟨q0, qP, qK⟩ := q; exact ⟨q0, qP, va_K.moved (u := U) (U := U.calling g mk a) (Vm.Alike.refl U.vm) qK⟩, va_recv hK hP (ci := 0) (q0 := 0) rfl rfl, fun U hU hW => ⟨rfl, by rw [hU]; exact hP, va_K.moved hW.alike hK⟩⟩ rfl rfl hl.1 rfl (lv_room (Nat.le_of_ble_eq_true rfl)) dX0_putDigits_25 ⟨Nat.le_of_ble_eq_true rfl, Nat.le_of_ble_eq_true rfl⟩).run) (fun r25 w25 => ?_)
    try dsimp only at w25
    refine lv_if_ne (tgt := 34) hx hb dX0_putDigits_28 rfl (fun h28 => ?_) (fun h28 => ?_)
    · skip
      have h28 := (tl_b1 w25).mp h28
      refine lv_aload_n hx hb dX0_putDigits_34 rfl (lv_at hl 2 rfl) ?_
      refine lv_iload_n hx hb dX0_putDigits_35 rfl (lv_at hl 3 rfl) ?_
      refine lv_iload_n hx hb dX0_putDigits_36 rfl (lv_at hl 3 rfl) ?_
      refine lv_iload hx hb dX0_putDigits_37 (lv_at hl 0 rfl) ?_
      have hPc := hP.sub (ws' := [(h0, .inr (0, [.ref q0, .ref q1, .int (nI n), .int (nI k)])), (q0, .inl (cA, 3000, .inl T)), (q1, .inl (cB, 40, .inl G))]) [0, 1, 2] rfl
      have hDc := hD.sub (ws' := [(h0, .inr (0, [.ref q0, .ref q1, .int (nI n), .int (nI k)])), (q0, .inl (cA, 3000, .inl T)), (q1, .inl (cB, 40, .inl G))]) [0, 1, 2] (by decide) rfl
      have hKc := hK
      have hFc := va_free (wc := [(h0, .inr (0, [.ref q0, .ref q1, .int (nI n), .int (nI k)])), (q0, .inl (cA, 3000, .inl T)), (q1, .inl (cB, 40, .inl G))]) hD hS hA [0, 1, 2] rfl
      refine va_callv (va_runV (As := [.int (nI a), .int (nI a), .int (nI (dg_m x))]) (rest := []) ⟨hx, hb, hml, hown, hts⟩ (c_X_makeGap l dC dI h0 q0 q1 s.heap.size n k cA cB T G T0 G0 hT hG hn hk a a (dg_m x) (by omega) (by omega) (by omega)) (cwV 3 hts (gV_ (fun w h => List.mem_cons_of_mem _ h) k81 k83 k2 k21 k84) rfl rfl rfl (by decide +kernel) ⟨Nat.le_of_ble_eq_true rfl, Nat.le_of_ble_eq_true rfl⟩) ⟨fun a U g mk q => by obtain ⟨q0, q1, qP, qK, qD⟩ := q; exact ⟨q0, q1, qP, va_K.moved (u := U) (U := U.calling g mk a) (Vm.Alike.refl U.vm) qK, qD⟩, va_recv hKc hPc (ci := 0) (q0 := 0) rfl rfl, fun U hU hW => ⟨rfl, by rw [hU], by rw [hU]; exact hPc, va_K.moved hW.alike hKc, hDc.weaken (fun _ _ _ _ => trivial)⟩⟩ rfl rfl hl.1 rfl (lv_room (Nat.le_of_ble_eq_true rfl)) dX0_putDigits_39 ⟨Nat.le_of_ble_eq_true rfl, Nat.le_of_ble_eq_true rfl⟩) hS (fun q _ h => hFc q h) hFc (fun u39 t H locs ht hvm w39 hB hz1 hk1 hS => ?_)
      try dsimp only at w39
      subst w39
      obtain ⟨hP1, hK1, hD1⟩ := hB
      rw [ht] at hP1
      obtain ⟨hP, hD⟩ := va_join (wr := []) (w1 := [(h0, .inr (0, [.ref q0, .ref q1, .int (nI (n - (a - a) + (dg_m x))), .int (nI k)])), (q0, .inl (cA, 3000, .inl (va_cpy T T a (a + (dg_m x)) (n - a)))), (q1, .inl (cB, 40, .inl G))]) hP hD [0, 1, 2] [] rfl rfl (by decide) (by decide) hk1 hFc hP1 hD1
      have hP : va_P (dC, dI) vwCl [(h0, .inr (0, [.ref q0, .ref q1, .int (nI (n - (a - a) + (dg_m x))), .int (nI k)])), (q0, .inl (cA, 3000, .inl (va_cpy T T a (a + (dg_m x)) (n - a)))), (q1, .inl (cB, 40, .inl G))] H := hP
      have hD : va_D A [(h0, .inr (0, [.ref q0, .ref q1, .int (nI (n - (a - a) + (dg_m x))), .int (nI k)])), (q0, .inl (cA, 3000, .inl (va_cpy T T a (a + (dg_m x)) (n - a)))), (q1, .inl (cB, 40, .inl G))] := hD
      refine lv_iload hx hb dX0_putDigits_42 (lv_at hl 1 rfl) ?_
      refine lv_iconst (v := nI 1) hx hb dX0_putDigits_44 (by decide) ?_
      refine lv_icmp_ne (tgt := 56) hx hb dX0_putDigits_45 rfl (fun h45 => ?_) (fun h45 => ?_)
      · skip
        have h45 := (not_congr (tl_eq (show (nI 1).toInt = (1 : Int) from (by decide)) (show (nI 1).toInt = (1 : Int) from (by decide)))).mp h45
        exfalso; omega
      · skip
        have h45 := (tl_eq (show (nI 1).toInt = (1 : Int) from (by decide)) (show (nI 1).toInt = (1 : Int) from (by decide))).mp h45
        refine lv_aload_n hx hb dX0_putDigits_48 rfl (lv_at hl 2 rfl) ?_
        refine va_get (D := (dC, dI)) (ci := 0) (v := .ref q0) (C := RX0) (T := TX0) (N := 4) hx hb hts hinX0 hown hK hP 0 rfl rfl 0 (by decide) (hts _ (List.mem_cons_of_mem _ k37)) (fun _ h9 => h9) rfl dX0_putDigits_49 ?_
        refine lv_iload_n hx hb dX0_putDigits_52 rfl (lv_at hl 3 rfl) ?_
        refine lv_bipush (v := nI 45) hx hb dX0_putDigits_53 (by decide) ?_
        refine tl_iast hx hb hK hP hD hS 1 0 rfl rfl (by omega) (by decide) dX0_putDigits_55 (fun H locs hP hD hS => ?_)
        have hP : va_P (dC, dI) vwCl [(h0, .inr (0, [.ref q0, .ref q1, .int (nI (n - (a - a) + (dg_m x))), .int (nI k)])), (q0, .inl (cA, 3000, .inl (upd (va_cpy T T a (a + (dg_m x)) (n - a)) a (nI 45)))), (q1, .inl (cB, 40, .inl G))] H := hP
        have hD : va_D A [(h0, .inr (0, [.ref q0, .ref q1, .int (nI (n - (a - a) + (dg_m x))), .int (nI k)])), (q0, .inl (cA, 3000, .inl (upd (va_cpy T T a (a + (dg_m x)) (n - a)) a (nI 45)))), (q1, .inl (cB, 40, .inl G))] := hD
        refine lv_lload_n hx hb dX0_putDigits_56 rfl (lv_at hl 4 rfl) ?_
        refine lv_lstore (lv' := [(6, .long x), (5, .int (nI (dg_m x))), (4, .int (nI 1)), (0, .ref h0), (1, .int (nI a)), (2, .long x)]) hx hb dX0_putDigits_57 hl (by decide) rfl (fun ls hl => ?_)
        refine lv_iload hx hb dX0_putDigits_59 (lv_at hl 1 rfl) ?_
        refine lv_iconst (v := nI 1) hx hb dX0_putDigits_61 (by decide) ?_
        refine lv_isub hx hb dX0_putDigits_62 ?_
        have e62 : ((nI (dg_m x)) - (nI 1)).toInt = ((dg_m x : Nat) : Int) - ((1 : Int)) := tl_subv (nI_toInt (by omega)) (by decide) (by omega) (by omega)
        refine lv_istore (lv' := [(8, .int ((nI (dg_m x)) - (nI 1))), (6, .long x), (5, .int (nI (dg_m x))), (4, .int (nI 1)), (0, .ref h0), (1, .int (nI a)), (2, .long x)]) hx hb dX0_putDigits_63 hl (by decide) rfl (fun ls hl => ?_)
        have LP65 : ∀ (fu : Nat) (j : Nat) (y : Int64) (F : Nat → Int32) (H : Heap) (locs : List Loc) (ls : Array Slot), j < fu → j ≤ dg_m x → 1 ≤ j → y.toInt.natAbs = x.toInt.natAbs / 10 ^ (dg_m x - j) → (∀ i, i < n - (a - a) + dg_m x → (i < a ∨ a + j ≤ i ∨ i = a) → F i = tl_rep T0 a a (dg_w x) (dg_m x) i) → lv_has ls 9 [(0, .ref h0), (1, .int (nI a)), (4, .int (nI 1)), (5, .int (nI (dg_m x))), (6, .long y), (8, .int (nI j - nI 1))] → va_P (dC, dI) vwCl [(h0, .inr (0, [.ref q0, .ref q1, .int (nI (n - (a - a) + (dg_m x))), .int (nI k)])), (q0, .inl (cA, 3000, .inl F)), (q1, .inl (cB, 40, .inl G))] H → va_D A [(h0, .inr (0, [.ref q0, .ref q1, .int (nI (n - (a - a) + (dg_m x))), .int (nI k)])), (q0, .inl (cA, 3000, .inl F)), (q1, .inl (cB, 40, .inl G))] → va_S A s.heap H locs → W p l e (headSpec wsX0_putDigits ({ frames := 2, cells := 0, slots := 0, locals := 44 } : Room)).room s m ([.ref h0, .int (nI a), .long x] : List Value).toArray below meth c H locs 0 0 Q (F0 m 65 ls []) := by
          intro fu
          induction fu with
          | zero => intro j y F H locs ls hfu; exact absurd hfu (Nat.not_lt_zero _)
          | succ fu ih =>
            intro j y F H locs ls hfu hj1 hj2 hy hF hl hP hD hS
            refine lv_iload hx hb dX0_putDigits_65 (lv_at hl 5 rfl) ?_
            refine lv_iload hx hb dX0_putDigits_67 (lv_at hl 2 rfl) ?_
            refine lv_icmp_lt (tgt := 108) hx hb dX0_putDigits_69 rfl (fun h69 => ?_) (fun h69 => ?_)
            · skip
              have h69 := (tl_lt (show (nI j - nI 1).toInt = ((j : Int) - 1) from (tl_predv (by omega))) (show (nI 1).toInt = ((1 : Nat) : Int) from (nI_toInt (by omega)))).mp h69
              refine lv_aload_n hx hb dX0_putDigits_108 rfl (lv_at hl 0 rfl) ?_
              refine va_get (D := (dC, dI)) (ci := 0) (v := .int (nI (n - (a - a) + (dg_m x)))) (C := RX0) (T := TX0) (N := 4) hx hb hts hinX0 hown hK hP 0 rfl rfl 2 (by decide) (hts _ (List.mem_cons_of_mem _ k39)) (fun _ h9 => h9) rfl dX0_putDigits_109 ?_
              subst hQ
              exact W.iret (v := nI (n - (a - a) + (dg_m x))) hx hb hr (fun t ht hW => ⟨⟨nI (n - (a - a) + (dg_m x)), (n - (a - a) + (dg_m x), F, k, G), rfl, (by unfold sp_put; rw [if_pos (by omega)]; exact ⟨rfl, tE_mk (fun i hi => hF i hi (by omega)) hG (by omega) hk⟩), by rw [ht]; exact hP, va_K.moved hW.alike hK, hD⟩, hS.F ht⟩) hS.2.2 dX0_putDigits_112
            · skip
              have h69 := (not_congr (tl_lt (show (nI j - nI 1).toInt = ((j : Int) - 1) from (tl_predv (by omega))) (show (nI 1).toInt = ((1 : Nat) : Int) from (nI_toInt (by omega))))).mp h69
              obtain ⟨i, rfl⟩ : ∃ i, j = i + 1 := ⟨j - 1, by omega⟩
              rw [show nI (i + 1) - nI 1 = nI i from pk_sub (by omega)] at hl
              have hl : lv_has ls 9 [(0, .ref h0), (1, .int (nI a)), (4, .int (nI 1)), (5, .int (nI (dg_m x))), (6, .long y), (8, .int (nI i))] := hl
              refine lv_aload_n hx hb dX0_putDigits_72 rfl (lv_at hl 0 rfl) ?_
              refine va_get (D := (dC, dI)) (ci := 0) (v := .ref q0) (C := RX0) (T := TX0) (N := 4) hx hb hts hinX0 hown hK hP 0 rfl rfl 0 (by decide) (hts _ (List.mem_cons_of_mem _ k37)) (fun _ h9 => h9) rfl dX0_putDigits_73 ?_
              refine lv_iload_n hx hb dX0_putDigits_76 rfl (lv_at hl 1 rfl) ?_
              refine lv_iload hx hb dX0_putDigits_77 (lv_at hl 5 rfl) ?_
              refine lv_iadd hx hb dX0_putDigits_79 ?_
              refine tl_top (nI_add _ _) ?_
              refine lv_bipush (v := nI 48) hx hb dX0_putDigits_80 (by decide) ?_
              refine lv_lload hx hb dX0_putDigits_82 (lv_at hl 4 rfl) ?_
              refine lv_ldc2 (v := (10 : Int64)) hx hb hown (hts _ (List.mem_cons_of_mem _ k76)) dX0_putDigits_84 ?_
              refine lv_lrem hx hb dX0_putDigits_87 (by decide) ?_
              refine lv_l2i hx hb dX0_putDigits_88 rfl ?_
              refine va_mabs hx hb (hml.trans hl.1.symm) hown (hts _ (List.mem_cons_of_mem _ k88)) (hts _ (List.mem_cons_of_mem _ k89)) (hts _ (List.mem_cons_of_mem _ k24)) (hts _ (List.mem_cons_of_mem _ k90)) (Nat.le_of_ble_eq_true rfl) (Nat.le_of_ble_eq_true rfl) (Nat.zero_le _) (Nat.zero_le _) dX0_putDigits_89 ?_
              refine tl_top (y := nI (x.toInt.natAbs / 10 ^ (dg_m x - (i + 1)) % 10)) (dg_dig hy) ?_
              refine lv_iadd hx hb dX0_putDigits_92 ?_
              refine tl_top (nI_add _ _) ?_
              refine tl_iast hx hb hK hP hD hS 1 0 rfl rfl (by omega) (by decide) dX0_putDigits_93 (fun H locs hP hD hS => ?_)
              have hP : va_P (dC, dI) vwCl [(h0, .inr (0, [.ref q0, .ref q1, .int (nI (n - (a - a) + (dg_m x))), .int (nI k)])), (q0, .inl (cA, 3000, .inl (upd F (a + i) (nI (48 + (x.toInt.natAbs / 10 ^ (dg_m x - (i + 1)) % 10)))))), (q1, .inl (cB, 40, .inl G))] H := hP
              have hD : va_D A [(h0, .inr (0, [.ref q0, .ref q1, .int (nI (n - (a - a) + (dg_m x))), .int (nI k)])), (q0, .inl (cA, 3000, .inl (upd F (a + i) (nI (48 + (x.toInt.natAbs / 10 ^ (dg_m x - (i + 1)) % 10)))))), (q1, .inl (cB, 40, .inl G))] := hD
              refine lv_lload hx hb dX0_putDigits_94 (lv_at hl 4 rfl) ?_
              refine lv_ldc2 (v := (10 : Int64)) hx hb hown (hts _ (List.mem_cons_of_mem _ k76)) dX0_putDigits_96 ?_
              refine lv_ldiv hx hb dX0_putDigits_99 (by decide) ?_
              refine lv_lstore (lv' := [(6, .long (y / ((10 : Int64)))), (0, .ref h0), (1, .int (nI a)), (4, .int (nI 1)), (5, .int (nI (dg_m x))), (8, .int (nI i))]) hx hb dX0_putDigits_100 hl (by decide) rfl (fun ls hl => ?_)
              refine lv_iinc (lv' := [(8, .int (nI i - nI 1)), (6, .long (y / ((10 : Int64)))), (0, .ref h0), (1, .int (nI a)), (4, .int (nI 1)), (5, .int (nI (dg_m x)))]) (k := 5) (v := nI i - nI 1) hx hb dX0_putDigits_102 hl rfl (tl_dec i) (by decide) rfl (fun ls hl => ?_)
              refine lv_goto (tgt := 65) hx hb dX0_putDigits_105 rfl ?_
              exact ih i (y / (10 : Int64)) (upd F (a + i) (nI (48 + (x.toInt.natAbs / 10 ^ (dg_m x - (i + 1)) % 10)))) _ _ ls (by omega) (by omega) (by omega) (dg_down hy (by omega)) (pu_dgsn (by omega) (by omega) (by omega) hF) (lv_sub hl [2, 3, 4, 5, 1, 0] rfl) hP hD hS
        exact LP65 _ (dg_m x) x (upd (va_cpy T T a (a + (dg_m x)) (n - a)) a (nI 45)) _ _ ls (Nat.lt_succ_self _) (by omega) (by omega) (by rw [Nat.sub_self, Nat.pow_zero, Nat.div_one]) (pu_dg0n hT han (by omega)) (lv_sub hl [4, 5, 3, 2, 1, 0] rfl) hP hD hS
    · skip
      have h28 := (tl_b0 w25).mp h28
      refine lv_bipush (v := (-3 : Int32)) hx hb dX0_putDigits_31 (by decide) ?_
      subst hQ
      exact W.iret (v := (-3 : Int32)) hx hb hr (fun t ht hW => ⟨⟨(-3 : Int32), (n, T, k, G), rfl, (by unfold sp_put; rw [if_neg (by omega)]; exact ⟨rfl, tE_mk hT hG hn hk⟩), by rw [ht]; exact hP, va_K.moved hW.alike hK, hD⟩, hS.F ht⟩) hS.2.2 dX0_putDigits_33
end
section
set_option maxHeartbeats 4000000 in
set_option maxRecDepth 100000 in
theorem c_X_findForward (l : Launch) (dC : Nat → ClassId) (dI : Nat → Nat → Nat) (h0 q0 q1 n k : Nat) (cA cB : ClassId) (T G T0 G0 : Nat → Int32) (hT : ∀ j, j < n → T j = T0 j) (hG : ∀ j, j < k → G j = G0 j) (hn : n ≤ 3000) (hk : k ≤ 40) (x : Int32) : Met l yX0_findForward wsX0_findForward ({ frames := 1, cells := 0, slots := 0, locals := 22 } : Room) (va_Pc [.ref h0, .int x] (fun U => va_P (dC, dI) vwCl [(h0, .inr (0, [.ref q0, .ref q1, .int (nI n), .int (nI k)])), (q0, .inl (cA, 3000, .inl T)), (q1, .inl (cB, 40, .inl G))] U.heap ∧ va_K (dC, dI) vwCl [(cA, .int), (cB, .int)] U)) (vp_Si (fun r : Int32 => r = tl_fw n T0 k G0 (n + 1 - min x.toNatClampNeg n) (min x.toNatClampNeg n))) 0 0 (fun _ => False) := by
  refine Met.ofW (cc := cX0_findForward) (maxL := 5) (ret := (some .int)) (by decide) rfl ?_
  intro p e s m args below meth c s₁ B hml hv
  obtain ⟨rfl, hP, hK⟩ := hv
  have hx := B.exec
  have hb := B.bytes
  have hr := B.returns
  have hts := atoms_spec (ws := wsX0_findForward) B.pre
  have hown : s.vm.findClass RX0 = some m.cls := findClass_of_methodNamed B.named
  have hlocks := B.notSynchronized
  have hP : va_P (dC, dI) vwCl [(h0, .inr (0, [.ref q0, .ref q1, .int (nI n), .int (nI k)])), (q0, .inl (cA, 3000, .inl T)), (q1, .inl (cB, 40, .inl G))] s.heap := hP
  have hinX0 : ∀ w ∈ u_ws RX0 TX0 4, w ∈ wsX0_findForward := fun w h => List.mem_cons_of_mem _ (inX0 w h)
  have hl := lv_entry ([.ref h0, .int x]) (n := 5) (Nat.le_of_ble_eq_true rfl)
  rw [lg_entry_eq]
  generalize (lg_sl ([.ref h0, .int x]) ++ List.replicate (5 - (lg_sl ([.ref h0, .int x])).length) Slot.unset).toArray = ls at hl ⊢
  have hl : lv_has ls 5 [(0, .ref h0), (1, .int x)] := hl
  refine tl_q (fun Q hQ => ?_)
  refine lv_aload_n hx hb dX0_findForward_0 rfl (lv_at hl 0 rfl) ?_
  refine va_get (D := (dC, dI)) (ci := 0) (v := .int (nI n)) (C := RX0) (T := TX0) (N := 4) hx hb hts hinX0 hown hK hP 0 rfl rfl 2 (by decide) (hts _ (List.mem_cons_of_mem _ k39)) (fun _ h9 => h9) rfl dX0_findForward_1 ?_
  refine lv_aload_n hx hb dX0_findForward_4 rfl (lv_at hl 0 rfl) ?_
  refine va_get (D := (dC, dI)) (ci := 0) (v := .int (nI k)) (C := RX0) (T := TX0) (N := 4) hx hb hts hinX0 hown hK hP 0 rfl rfl 3 (by decide) (hts _ (List.mem_cons_of_mem _ k40)) (fun _ h9 => h9) rfl dX0_findForward_5 ?_
  refine lv_isub hx hb dX0_findForward_8 ?_
  have e8 : ((nI n) - (nI k)).toInt = ((n : Nat) : Int) - (((k : Nat) : Int)) := tl_subv (nI_toInt (by omega)) (nI_toInt (by omega)) (by omega) (by omega)
  refine lv_istore_n (lv' := [(2, .int ((nI n) - (nI k))), (0, .ref h0), (1, .int x)]) hx hb dX0_findForward_9 rfl hl (by decide) rfl (fun ls hl => ?_)
  refine lv_iload_n hx hb dX0_findForward_10 rfl (lv_at hl 2 rfl) ?_
  refine lv_iconst (v := nI 0) hx hb dX0_findForward_11 (by decide) ?_
  refine va_mmax hx hb (hml.trans hl.1.symm) hown (hts _ (List.mem_cons_of_mem _ k209)) (hts _ (List.mem_cons_of_mem _ k210)) (hts _ (List.mem_cons_of_mem _ k24)) (hts _ (List.mem_cons_of_mem _ k211)) (Nat.le_of_ble_eq_true rfl) (Nat.le_of_ble_eq_true rfl) (Nat.zero_le _) (Nat.zero_le _) dX0_findForward_12 ?_
  refine lv_aload_n hx hb dX0_findForward_15 rfl (lv_at hl 1 rfl) ?_
  refine va_get (D := (dC, dI)) (ci := 0) (v := .int (nI n)) (C := RX0) (T := TX0) (N := 4) hx hb hts hinX0 hown hK hP 0 rfl rfl 2 (by decide) (hts _ (List.mem_cons_of_mem _ k39)) (fun _ h9 => h9) rfl dX0_findForward_16 ?_
  refine va_mmin hx hb (hml.trans hl.1.symm) hown (hts _ (List.mem_cons_of_mem _ k166)) (hts _ (List.mem_cons_of_mem _ k167)) (hts _ (List.mem_cons_of_mem _ k24)) (hts _ (List.mem_cons_of_mem _ k168)) (Nat.le_of_ble_eq_true rfl) (Nat.le_of_ble_eq_true rfl) (Nat.zero_le _) (Nat.zero_le _) dX0_findForward_19 ?_
  refine tl_top (y := nI (min x.toNatClampNeg n)) (tl_clampv (by omega)) ?_
  refine lv_istore_n (lv' := [(3, .int (nI (min x.toNatClampNeg n))), (2, .int ((nI n) - (nI k))), (0, .ref h0), (1, .int x)]) hx hb dX0_findForward_22 rfl hl (by decide) rfl (fun ls hl => ?_)
  refine lv_iload_n hx hb dX0_findForward_23 rfl (lv_at hl 0 rfl) ?_
  refine lv_istore (lv' := [(4, .int (nI (min x.toNatClampNeg n))), (3, .int (nI (min x.toNatClampNeg n))), (2, .int ((nI n) - (nI k))), (0, .ref h0), (1, .int x)]) hx hb dX0_findForward_24 hl (by decide) rfl (fun ls hl => ?_)
  have LP26 : ∀ (fu : Nat) (a : Nat) (ls : Array Slot), n + 1 - a < fu → a ≤ n + 1 → tl_fw n T0 k G0 (n + 1 - min x.toNatClampNeg n) (min x.toNatClampNeg n) = tl_fw n T0 k G0 (n + 1 - a) a → lv_has ls 5 [(0, .ref h0), (2, .int (nI n - nI k)), (4, .int (nI a))] → W p l e (headSpec wsX0_findForward ({ frames := 1, cells := 0, slots := 0, locals := 22 } : Room)).room s m ([.ref h0, .int x] : List Value).toArray below meth c s.heap [] 0 0 Q (F0 m 26 ls []) := by
    intro fu
    induction fu with
    | zero => intro a ls hfu; exact absurd hfu (Nat.not_lt_zero _)
    | succ fu ih =>
      intro a ls hfu lta hf hl
      refine lv_iload hx hb dX0_findForward_26 (lv_at hl 2 rfl) ?_
      refine lv_iload_n hx hb dX0_findForward_28 rfl (lv_at hl 1 rfl) ?_
      refine lv_icmp_gt (tgt := 50) hx hb dX0_findForward_29 rfl (fun h29 => ?_) (fun h29 => ?_)
      · skip
        have h29 := (tl_lt (show (nI n - nI k).toInt = ((n : Int) - (k : Int)) from e8) (show (nI a).toInt = ((a : Nat) : Int) from (nI_toInt (by omega)))).mp h29
        refine lv_iconst (v := (-1 : Int32)) hx hb dX0_findForward_50 (by decide) ?_
        subst hQ
        exact W.iret (v := (-1 : Int32)) hx hb hr (fun t ht hW => ⟨(-1 : Int32), rfl, (by rw [hf, tl_fw_none _ _ (by omega)]), ht⟩) (fun q h => absurd h List.not_mem_nil) dX0_findForward_51
      · skip
        have h29 := (not_congr (tl_lt (show (nI n - nI k).toInt = ((n : Int) - (k : Int)) from e8) (show (nI a).toInt = ((a : Nat) : Int) from (nI_toInt (by omega))))).mp h29
        refine lv_aload_n hx hb dX0_findForward_32 rfl (lv_at hl 0 rfl) ?_
        refine lv_iload hx hb dX0_findForward_33 (lv_at hl 2 rfl) ?_
        have ea35_0 : (nI a).toInt = ((a : Nat) : Int) := (nI_toInt (by omega))
        refine vp_callSi ((va_runV (As := [.int (nI a)]) (rest := []) ⟨hx, hb, hml, hown, hts⟩ (c_X_scrapStandsAt l dC dI h0 q0 q1 n k cA cB T G T0 G0 hT hG hn hk a (by omega)) (cwV 1 hts (gV_ (fun w h => List.mem_cons_of_mem _ h) k201 k203 k9 k21 k204) rfl rfl rfl (by decide +kernel) ⟨Nat.le_of_ble_eq_true rfl, Nat.le_of_ble_eq_true rfl⟩) ⟨fun a U g mk q => by obtain ⟨q0, qP, qK⟩ := q; exact ⟨q0, qP, va_K.moved (u := U) (U := U.calling g mk a) (Vm.Alike.refl U.vm) qK⟩, va_recv hK hP (ci := 0) (q0 := 0) rfl rfl, fun U hU hW => ⟨rfl, by rw [hU]; exact hP, va_K.moved hW.alike hK⟩⟩ rfl rfl hl.1 rfl (lv_room (Nat.le_of_ble_eq_true rfl)) dX0_findForward_35 ⟨Nat.le_of_ble_eq_true rfl, Nat.le_of_ble_eq_true rfl⟩).run) (fun r35 w35 => ?_)
        try dsimp only at w35
        refine lv_if_eq (tgt := 44) hx hb dX0_findForward_38 rfl (fun h38 => ?_) (fun h38 => ?_)
        · skip
          have h38 := (tl_b0 w35).mp h38
          refine lv_iinc (lv' := [(4, .int (nI (a + 1))), (0, .ref h0), (2, .int (nI n - nI k))]) (k := 2) (v := nI (a + 1)) hx hb dX0_findForward_44 hl rfl (tl_inc1 _) (by decide) rfl (fun ls hl => ?_)
          refine lv_goto (tgt := 26) hx hb dX0_findForward_47 rfl ?_
          exact ih (a + 1) ls (by omega) (by omega) (by rw [hf, tl_fw_step (by omega), if_neg (fun q => h38 q.2)]) (lv_sub hl [1, 2, 0] rfl)
        · skip
          have h38 := (tl_b1 w35).mp h38
          refine lv_iload hx hb dX0_findForward_41 (lv_at hl 2 rfl) ?_
          subst hQ
          exact W.iret (v := nI a) hx hb hr (fun t ht hW => ⟨nI a, rfl, (by rw [hf, tl_fw_step (by omega), if_pos ⟨by omega, h38⟩]), ht⟩) (fun q h => absurd h List.not_mem_nil) dX0_findForward_43
  exact LP26 _ (min x.toNatClampNeg n) ls (Nat.lt_succ_self _) (by omega) (by rfl) (lv_sub hl [3, 2, 0] rfl)
set_option maxHeartbeats 4000000 in
set_option maxRecDepth 100000 in
theorem c_X_findBackward (l : Launch) (dC : Nat → ClassId) (dI : Nat → Nat → Nat) (h0 q0 q1 n k : Nat) (cA cB : ClassId) (T G T0 G0 : Nat → Int32) (hT : ∀ j, j < n → T j = T0 j) (hG : ∀ j, j < k → G j = G0 j) (hn : n ≤ 3000) (hk : k ≤ 40) (x : Int32) : Met l yX0_findBackward wsX0_findBackward ({ frames := 1, cells := 0, slots := 0, locals := 22 } : Room) (va_Pc [.ref h0, .int x] (fun U => va_P (dC, dI) vwCl [(h0, .inr (0, [.ref q0, .ref q1, .int (nI n), .int (nI k)])), (q0, .inl (cA, 3000, .inl T)), (q1, .inl (cB, 40, .inl G))] U.heap ∧ va_K (dC, dI) vwCl [(cA, .int), (cB, .int)] U)) (vp_Si (fun r : Int32 => r = if x.toInt < 0 then (-1 : Int32) else tl_bw n T0 k G0 (min x.toNatClampNeg n + 1))) 0 0 (fun _ => False) := by
  refine Met.ofW (cc := cX0_findBackward) (maxL := 4) (ret := (some .int)) (by decide) rfl ?_
  intro p e s m args below meth c s₁ B hml hv
  obtain ⟨rfl, hP, hK⟩ := hv
  have hx := B.exec
  have hb := B.bytes
  have hr := B.returns
  have hts := atoms_spec (ws := wsX0_findBackward) B.pre
  have hown : s.vm.findClass RX0 = some m.cls := findClass_of_methodNamed B.named
  have hlocks := B.notSynchronized
  have hP : va_P (dC, dI) vwCl [(h0, .inr (0, [.ref q0, .ref q1, .int (nI n), .int (nI k)])), (q0, .inl (cA, 3000, .inl T)), (q1, .inl (cB, 40, .inl G))] s.heap := hP
  have hinX0 : ∀ w ∈ u_ws RX0 TX0 4, w ∈ wsX0_findBackward := fun w h => List.mem_cons_of_mem _ (inX0 w h)
  have hl := lv_entry ([.ref h0, .int x]) (n := 4) (Nat.le_of_ble_eq_true rfl)
  rw [lg_entry_eq]
  generalize (lg_sl ([.ref h0, .int x]) ++ List.replicate (4 - (lg_sl ([.ref h0, .int x])).length) Slot.unset).toArray = ls at hl ⊢
  have hl : lv_has ls 4 [(0, .ref h0), (1, .int x)] := hl
  refine tl_q (fun Q hQ => ?_)
  refine lv_iload_n hx hb dX0_findBackward_0 rfl (lv_at hl 1 rfl) ?_
  refine lv_aload_n hx hb dX0_findBackward_1 rfl (lv_at hl 0 rfl) ?_
  refine va_get (D := (dC, dI)) (ci := 0) (v := .int (nI n)) (C := RX0) (T := TX0) (N := 4) hx hb hts hinX0 hown hK hP 0 rfl rfl 2 (by decide) (hts _ (List.mem_cons_of_mem _ k39)) (fun _ h9 => h9) rfl dX0_findBackward_2 ?_
  refine lv_aload_n hx hb dX0_findBackward_5 rfl (lv_at hl 0 rfl) ?_
  refine va_get (D := (dC, dI)) (ci := 0) (v := .int (nI k)) (C := RX0) (T := TX0) (N := 4) hx hb hts hinX0 hown hK hP 0 rfl rfl 3 (by decide) (hts _ (List.mem_cons_of_mem _ k40)) (fun _ h9 => h9) rfl dX0_findBackward_6 ?_
  refine lv_isub hx hb dX0_findBackward_9 ?_
  have e9 : ((nI n) - (nI k)).toInt = ((n : Nat) : Int) - (((k : Nat) : Int)) := tl_subv (nI_toInt (by omega)) (nI_toInt (by omega)) (by omega) (by omega)
  refine va_mmin hx hb (hml.trans hl.1.symm) hown (hts _ (List.mem_cons_of_mem _ k166)) (hts _ (List.mem_cons_of_mem _ k167)) (hts _ (List.mem_cons_of_mem _ k24)) (hts _ (List.mem_cons_of_mem _ k168)) (Nat.le_of_ble_eq_true rfl) (Nat.le_of_ble_eq_true rfl) (Nat.zero_le _) (Nat.zero_le _) dX0_findBackward_10 ?_
  refine lv_istore_n (lv' := [(2, .int ((if (nI n) - (nI k) < x then (nI n) - (nI k) else x))), (0, .ref h0), (1, .int x)]) hx hb dX0_findBackward_13 rfl hl (by decide) rfl (fun ls hl => ?_)
  refine lv_iload_n hx hb dX0_findBackward_14 rfl (lv_at hl 0 rfl) ?_
  refine lv_istore_n (lv' := [(3, .int ((if (nI n) - (nI k) < x then (nI n) - (nI k) else x))), (2, .int ((if (nI n) - (nI k) < x then (nI n) - (nI k) else x))), (0, .ref h0), (1, .int x)]) hx hb dX0_findBackward_15 rfl hl (by decide) rfl (fun ls hl => ?_)
  have LP16 : ∀ (fu : Nat) (z : Int32) (ls : Array Slot), (z.toInt + 1).toNat < fu → z.toInt + k ≤ n ∨ z.toInt < 0 → (if x.toInt < 0 then (-1 : Int32) else tl_bw n T0 k G0 (min x.toNatClampNeg n + 1)) = tl_bw n T0 k G0 (z.toInt + 1).toNat → lv_has ls 4 [(0, .ref h0), (3, .int z)] → W p l e (headSpec wsX0_findBackward ({ frames := 1, cells := 0, slots := 0, locals := 22 } : Room)).room s m ([.ref h0, .int x] : List Value).toArray below meth c s.heap [] 0 0 Q (F0 m 16 ls []) := by
    intro fu
    induction fu with
    | zero => intro z ls hfu; exact absurd hfu (Nat.not_lt_zero _)
    | succ fu ih =>
      intro z ls hfu hz hf hl
      refine lv_iload_n hx hb dX0_findBackward_16 rfl (lv_at hl 1 rfl) ?_
      refine lv_if_lt (tgt := 36) hx hb dX0_findBackward_17 rfl (fun h17 => ?_) (fun h17 => ?_)
      · skip
        have h17 := (tl_lt (show z.toInt = z.toInt from rfl) (show (0 : Int32).toInt = (0 : Int) from Int32.toInt_zero)).mp h17
        refine lv_iconst (v := (-1 : Int32)) hx hb dX0_findBackward_36 (by decide) ?_
        subst hQ
        exact W.iret (v := (-1 : Int32)) hx hb hr (fun t ht hW => ⟨(-1 : Int32), rfl, (by rw [hf, show (z.toInt + 1).toNat = 0 by omega]; rfl), ht⟩) (fun q h => absurd h List.not_mem_nil) dX0_findBackward_37
      · skip
        have h17 := (not_congr (tl_lt (show z.toInt = z.toInt from rfl) (show (0 : Int32).toInt = (0 : Int) from Int32.toInt_zero))).mp h17
        obtain ⟨a, lta, rfl⟩ := tl_of (x := z) (by omega)
        have ea : (nI a).toInt = ((a : Nat) : Int) := nI_toInt lta
        refine lv_aload_n hx hb dX0_findBackward_20 rfl (lv_at hl 0 rfl) ?_
        refine lv_iload_n hx hb dX0_findBackward_21 rfl (lv_at hl 1 rfl) ?_
        have ea22_0 : (nI a).toInt = ((a : Nat) : Int) := (nI_toInt (by omega))
        refine vp_callSi ((va_runV (As := [.int (nI a)]) (rest := []) ⟨hx, hb, hml, hown, hts⟩ (c_X_scrapStandsAt l dC dI h0 q0 q1 n k cA cB T G T0 G0 hT hG hn hk a (by omega)) (cwV 1 hts (gV_ (fun w h => List.mem_cons_of_mem _ h) k201 k203 k9 k21 k204) rfl rfl rfl (by decide +kernel) ⟨Nat.le_of_ble_eq_true rfl, Nat.le_of_ble_eq_true rfl⟩) ⟨fun a U g mk q => by obtain ⟨q0, qP, qK⟩ := q; exact ⟨q0, qP, va_K.moved (u := U) (U := U.calling g mk a) (Vm.Alike.refl U.vm) qK⟩, va_recv hK hP (ci := 0) (q0 := 0) rfl rfl, fun U hU hW => ⟨rfl, by rw [hU]; exact hP, va_K.moved hW.alike hK⟩⟩ rfl rfl hl.1 rfl (lv_room (Nat.le_of_ble_eq_true rfl)) dX0_findBackward_22 ⟨Nat.le_of_ble_eq_true rfl, Nat.le_of_ble_eq_true rfl⟩).run) (fun r22 w22 => ?_)
        try dsimp only at w22
        refine lv_if_eq (tgt := 30) hx hb dX0_findBackward_25 rfl (fun h25 => ?_) (fun h25 => ?_)
        · skip
          have h25 := (tl_b0 w22).mp h25
          refine lv_iinc (lv' := [(3, .int (nI a - nI 1)), (0, .ref h0)]) (k := 1) (v := nI a - nI 1) hx hb dX0_findBackward_30 hl rfl (tl_dec a) (by decide) rfl (fun ls hl => ?_)
          refine lv_goto (tgt := 16) hx hb dX0_findBackward_33 rfl ?_
          exact ih (nI a - nI 1) ls (by rw [tl_predv (by omega)]; omega) (by rw [tl_predv (by omega)]; omega) (by rw [hf, ea, tl_predv (by omega), show ((a : Int) + 1).toNat = a + 1 by omega, show ((a : Int) - 1 + 1).toNat = a by omega, tl_bw, if_neg (fun q => h25 q.2)]) (lv_sub hl [1, 0] rfl)
        · skip
          have h25 := (tl_b1 w22).mp h25
          refine lv_iload_n hx hb dX0_findBackward_28 rfl (lv_at hl 1 rfl) ?_
          subst hQ
          exact W.iret (v := nI a) hx hb hr (fun t ht hW => ⟨nI a, rfl, (by rw [hf, ea, show ((a : Int) + 1).toNat = a + 1 by omega, tl_bw, if_pos ⟨by omega, h25⟩]), ht⟩) (fun q h => absurd h List.not_mem_nil) dX0_findBackward_29
  exact LP16 _ ((if (nI n) - (nI k) < x then (nI n) - (nI k) else x)) ls (Nat.lt_succ_self _) (tl_bw_i1 e9) (tl_bw_init (by omega) (tl_bw_i2 e9)) (lv_sub hl [2, 0] rfl)
set_option maxHeartbeats 4000000 in
set_option maxRecDepth 100000 in
theorem c_X_get (l : Launch) (dC : Nat → ClassId) (dI : Nat → Nat → Nat) (h0 q0 q1 n k : Nat) (cA cB : ClassId) (T G T0 G0 : Nat → Int32) (hT : ∀ j, j < n → T j = T0 j) (hG : ∀ j, j < k → G j = G0 j) (hn : n ≤ 3000) (hk : k ≤ 40) (x : Int32) : Met l yX0_get wsX0_get ({ frames := 1, cells := 0, slots := 0, locals := 21 } : Room) (va_Pc [.ref h0, .int x] (fun U => va_P (dC, dI) vwCl [(h0, .inr (0, [.ref q0, .ref q1, .int (nI n), .int (nI k)])), (q0, .inl (cA, 3000, .inl T)), (q1, .inl (cB, 40, .inl G))] U.heap ∧ va_K (dC, dI) vwCl [(cA, .int), (cB, .int)] U)) (vp_Si (fun r : Int32 => r = sp_get x n T0)) 0 0 (fun _ => False) := by
  refine Met.ofW (cc := cX0_get) (maxL := 2) (ret := (some .int)) (by decide) rfl ?_
  intro p e s m args below meth c s₁ B hml hv
  obtain ⟨rfl, hP, hK⟩ := hv
  have hx := B.exec
  have hb := B.bytes
  have hr := B.returns
  have hts := atoms_spec (ws := wsX0_get) B.pre
  have hown : s.vm.findClass RX0 = some m.cls := findClass_of_methodNamed B.named
  have hlocks := B.notSynchronized
  have hP : va_P (dC, dI) vwCl [(h0, .inr (0, [.ref q0, .ref q1, .int (nI n), .int (nI k)])), (q0, .inl (cA, 3000, .inl T)), (q1, .inl (cB, 40, .inl G))] s.heap := hP
  have hinX0 : ∀ w ∈ u_ws RX0 TX0 4, w ∈ wsX0_get := fun w h => List.mem_cons_of_mem _ (inX0 w h)
  have hl := lv_entry ([.ref h0, .int x]) (n := 2) (Nat.le_of_ble_eq_true rfl)
  rw [lg_entry_eq]
  generalize (lg_sl ([.ref h0, .int x]) ++ List.replicate (2 - (lg_sl ([.ref h0, .int x])).length) Slot.unset).toArray = ls at hl ⊢
  have hl : lv_has ls 2 [(0, .ref h0), (1, .int x)] := hl
  refine tl_q (fun Q hQ => ?_)
  refine lv_aload_n hx hb dX0_get_0 rfl (lv_at hl 0 rfl) ?_
  refine lv_iload_n hx hb dX0_get_1 rfl (lv_at hl 1 rfl) ?_
  refine vp_callSi ((va_runV (As := [.int x]) (rest := []) ⟨hx, hb, hml, hown, hts⟩ (c_X_isPlace l dC dI h0 q0 q1 n k cA cB T G T0 G0 hT hG hn hk x) (cwV 1 hts (gV_ (fun w h => List.mem_cons_of_mem _ h) k177 k179 k7 k21 k180) rfl rfl rfl (by decide +kernel) ⟨Nat.le_of_ble_eq_true rfl, Nat.le_of_ble_eq_true rfl⟩) ⟨fun a U g mk q => by obtain ⟨q0, qP, qK⟩ := q; exact ⟨q0, qP, va_K.moved (u := U) (U := U.calling g mk a) (Vm.Alike.refl U.vm) qK⟩, va_recv hK hP (ci := 0) (q0 := 0) rfl rfl, fun U hU hW => ⟨rfl, by rw [hU]; exact hP, va_K.moved hW.alike hK⟩⟩ rfl rfl hl.1 rfl (lv_room (Nat.le_of_ble_eq_true rfl)) dX0_get_2 ⟨Nat.le_of_ble_eq_true rfl, Nat.le_of_ble_eq_true rfl⟩).run) (fun r2 w2 => ?_)
  try dsimp only at w2
  refine lv_if_eq (tgt := 17) hx hb dX0_get_5 rfl (fun h5 => ?_) (fun h5 => ?_)
  · skip
    have h5 := (tl_b0 w2).mp h5
    refine lv_iconst (v := (-1 : Int32)) hx hb dX0_get_17 (by decide) ?_
    subst hQ
    exact W.iret (v := (-1 : Int32)) hx hb hr (fun t ht hW => ⟨(-1 : Int32), rfl, (by (try dsimp only); unfold sp_get; (repeat' split) <;> first | rfl | (exfalso; omega)), ht⟩) (fun q h => absurd h List.not_mem_nil) dX0_get_18
  · skip
    have h5 := (tl_b1 w2).mp h5
    obtain ⟨a, lta, rfl⟩ := tl_of (x := x) (by omega)
    have ea : (nI a).toInt = ((a : Nat) : Int) := nI_toInt lta
    refine lv_aload_n hx hb dX0_get_8 rfl (lv_at hl 0 rfl) ?_
    refine va_get (D := (dC, dI)) (ci := 0) (v := .ref q0) (C := RX0) (T := TX0) (N := 4) hx hb hts hinX0 hown hK hP 0 rfl rfl 0 (by decide) (hts _ (List.mem_cons_of_mem _ k37)) (fun _ h9 => h9) rfl dX0_get_9 ?_
    refine lv_iload_n hx hb dX0_get_12 rfl (lv_at hl 1 rfl) ?_
    refine tl_iald (v := T0 a) hx hb hK hP 1 0 rfl rfl (by omega) (by decide) (hT _ (by omega)) dX0_get_13 ?_
    refine lv_goto (tgt := 18) hx hb dX0_get_14 rfl ?_
    subst hQ
    exact W.iret (v := T0 a) hx hb hr (fun t ht hW => ⟨T0 a, rfl, (by (try dsimp only); unfold sp_get; (try simp only [nI_clamp lta]); (repeat' split) <;> first | rfl | (exfalso; omega)), ht⟩) (fun q h => absurd h List.not_mem_nil) dX0_get_18
set_option maxHeartbeats 4000000 in
set_option maxRecDepth 100000 in
theorem c_X_scrap (l : Launch) (dC : Nat → ClassId) (dI : Nat → Nat → Nat) (h0 q0 q1 n k : Nat) (cA cB : ClassId) (T G T0 G0 : Nat → Int32) (hT : ∀ j, j < n → T j = T0 j) (hG : ∀ j, j < k → G j = G0 j) (hn : n ≤ 3000) (hk : k ≤ 40) (x : Int32) : Met l yX0_scrap wsX0_scrap ({ frames := 0, cells := 0, slots := 0, locals := 0 } : Room) (va_Pc [.ref h0, .int x] (fun U => va_P (dC, dI) vwCl [(h0, .inr (0, [.ref q0, .ref q1, .int (nI n), .int (nI k)])), (q0, .inl (cA, 3000, .inl T)), (q1, .inl (cB, 40, .inl G))] U.heap ∧ va_K (dC, dI) vwCl [(cA, .int), (cB, .int)] U)) (vp_Si (fun r : Int32 => r = sp_scrap x k G0)) 0 0 (fun _ => False) := by
  refine Met.ofW (cc := cX0_scrap) (maxL := 2) (ret := (some .int)) (by decide) rfl ?_
  intro p e s m args below meth c s₁ B hml hv
  obtain ⟨rfl, hP, hK⟩ := hv
  have hx := B.exec
  have hb := B.bytes
  have hr := B.returns
  have hts := atoms_spec (ws := wsX0_scrap) B.pre
  have hown : s.vm.findClass RX0 = some m.cls := findClass_of_methodNamed B.named
  have hlocks := B.notSynchronized
  have hP : va_P (dC, dI) vwCl [(h0, .inr (0, [.ref q0, .ref q1, .int (nI n), .int (nI k)])), (q0, .inl (cA, 3000, .inl T)), (q1, .inl (cB, 40, .inl G))] s.heap := hP
  have hinX0 : ∀ w ∈ u_ws RX0 TX0 4, w ∈ wsX0_scrap := fun w h => List.mem_cons_of_mem _ (inX0 w h)
  have hl := lv_entry ([.ref h0, .int x]) (n := 2) (Nat.le_of_ble_eq_true rfl)
  rw [lg_entry_eq]
  generalize (lg_sl ([.ref h0, .int x]) ++ List.replicate (2 - (lg_sl ([.ref h0, .int x])).length) Slot.unset).toArray = ls at hl ⊢
  have hl : lv_has ls 2 [(0, .ref h0), (1, .int x)] := hl
  refine tl_q (fun Q hQ => ?_)
  refine lv_iload_n hx hb dX0_scrap_0 rfl (lv_at hl 1 rfl) ?_
  refine lv_if_lt (tgt := 21) hx hb dX0_scrap_1 rfl (fun h1 => ?_) (fun h1 => ?_)
  · skip
    have h1 := (tl_lt (show x.toInt = x.toInt from rfl) (show (0 : Int32).toInt = (0 : Int) from Int32.toInt_zero)).mp h1
    refine lv_iconst (v := (-1 : Int32)) hx hb dX0_scrap_21 (by decide) ?_
    subst hQ
    exact W.iret (v := (-1 : Int32)) hx hb hr (fun t ht hW => ⟨(-1 : Int32), rfl, (by (try dsimp only); unfold sp_scrap; (repeat' split) <;> first | rfl | (exfalso; omega)), ht⟩) (fun q h => absurd h List.not_mem_nil) dX0_scrap_22
  · skip
    have h1 := (not_congr (tl_lt (show x.toInt = x.toInt from rfl) (show (0 : Int32).toInt = (0 : Int) from Int32.toInt_zero))).mp h1
    refine lv_iload_n hx hb dX0_scrap_4 rfl (lv_at hl 1 rfl) ?_
    refine lv_aload_n hx hb dX0_scrap_5 rfl (lv_at hl 0 rfl) ?_
    refine va_get (D := (dC, dI)) (ci := 0) (v := .int (nI k)) (C := RX0) (T := TX0) (N := 4) hx hb hts hinX0 hown hK hP 0 rfl rfl 3 (by decide) (hts _ (List.mem_cons_of_mem _ k40)) (fun _ h9 => h9) rfl dX0_scrap_6 ?_
    refine lv_icmp_ge (tgt := 21) hx hb dX0_scrap_9 rfl (fun h9 => ?_) (fun h9 => ?_)
    · skip
      have h9 := (tl_le (show (nI k).toInt = ((k : Nat) : Int) from (nI_toInt (by omega))) (show x.toInt = x.toInt from rfl)).mp h9
      refine lv_iconst (v := (-1 : Int32)) hx hb dX0_scrap_21 (by decide) ?_
      subst hQ
      exact W.iret (v := (-1 : Int32)) hx hb hr (fun t ht hW => ⟨(-1 : Int32), rfl, (by (try dsimp only); unfold sp_scrap; (repeat' split) <;> first | rfl | (exfalso; omega)), ht⟩) (fun q h => absurd h List.not_mem_nil) dX0_scrap_22
    · skip
      have h9 := (not_congr (tl_le (show (nI k).toInt = ((k : Nat) : Int) from (nI_toInt (by omega))) (show x.toInt = x.toInt from rfl))).mp h9
      obtain ⟨a, lta, rfl⟩ := tl_of (x := x) (by omega)
      have ea : (nI a).toInt = ((a : Nat) : Int) := nI_toInt lta
      refine lv_aload_n hx hb dX0_scrap_12 rfl (lv_at hl 0 rfl) ?_
      refine va_get (D := (dC, dI)) (ci := 0) (v := .ref q1) (C := RX0) (T := TX0) (N := 4) hx hb hts hinX0 hown hK hP 0 rfl rfl 1 (by decide) (hts _ (List.mem_cons_of_mem _ k38)) (fun _ h9 => h9) rfl dX0_scrap_13 ?_
      refine lv_iload_n hx hb dX0_scrap_16 rfl (lv_at hl 1 rfl) ?_
      refine tl_iald (v := G0 a) hx hb hK hP 2 1 rfl rfl (by omega) (by decide) (hG _ (by omega)) dX0_scrap_17 ?_
      refine lv_goto (tgt := 22) hx hb dX0_scrap_18 rfl ?_
      subst hQ
      exact W.iret (v := G0 a) hx hb hr (fun t ht hW => ⟨G0 a, rfl, (by (try dsimp only); unfold sp_scrap; (try simp only [nI_clamp lta]); (repeat' split) <;> first | rfl | (exfalso; omega)), ht⟩) (fun q h => absurd h List.not_mem_nil) dX0_scrap_22
set_option maxHeartbeats 4000000 in
set_option maxRecDepth 100000 in
theorem c_X_look (l : Launch) (dC : Nat → ClassId) (dI : Nat → Nat → Nat) (h0 q0 q1 n k : Nat) (cA cB : ClassId) (T G T0 G0 : Nat → Int32) (hT : ∀ j, j < n → T j = T0 j) (hG : ∀ j, j < k → G j = G0 j) (hn : n ≤ 3000) (hk : k ≤ 40) (x : Int32) : Met l yX0_look wsX0_look ({ frames := 1, cells := 0, slots := 0, locals := 22 } : Room) (va_Pc [.ref h0, .int x] (fun U => va_P (dC, dI) vwCl [(h0, .inr (0, [.ref q0, .ref q1, .int (nI n), .int (nI k)])), (q0, .inl (cA, 3000, .inl T)), (q1, .inl (cB, 40, .inl G))] U.heap ∧ va_K (dC, dI) vwCl [(cA, .int), (cB, .int)] U)) (vp_Si (fun r : Int32 => r = sp_look x n T0 k)) 0 0 (fun _ => False) := by
  refine Met.ofW (cc := cX0_look) (maxL := 2) (ret := (some .int)) (by decide) rfl ?_
  intro p e s m args below meth c s₁ B hml hv
  obtain ⟨rfl, hP, hK⟩ := hv
  have hx := B.exec
  have hb := B.bytes
  have hr := B.returns
  have hts := atoms_spec (ws := wsX0_look) B.pre
  have hown : s.vm.findClass RX0 = some m.cls := findClass_of_methodNamed B.named
  have hlocks := B.notSynchronized
  have hP : va_P (dC, dI) vwCl [(h0, .inr (0, [.ref q0, .ref q1, .int (nI n), .int (nI k)])), (q0, .inl (cA, 3000, .inl T)), (q1, .inl (cB, 40, .inl G))] s.heap := hP
  have hinX0 : ∀ w ∈ u_ws RX0 TX0 4, w ∈ wsX0_look := fun w h => List.mem_cons_of_mem _ (inX0 w h)
  have hl := lv_entry ([.ref h0, .int x]) (n := 2) (Nat.le_of_ble_eq_true rfl)
  rw [lg_entry_eq]
  generalize (lg_sl ([.ref h0, .int x]) ++ List.replicate (2 - (lg_sl ([.ref h0, .int x])).length) Slot.unset).toArray = ls at hl ⊢
  have hl : lv_has ls 2 [(0, .ref h0), (1, .int x)] := hl
  refine tl_q (fun Q hQ => ?_)
  refine lv_iload_n hx hb dX0_look_0 rfl (lv_at hl 1 rfl) ?_
  have sw1 : x.toInt = x.toInt := rfl
  by_cases hs1_0 : x.toInt = 0
  · skip
    refine lv_tableIn (off := 27) (tgt := 28) hx hb dX0_look_1 (by omega) (by omega) (by rw [sw1, hs1_0]; first | done | rfl) rfl ?_
    refine lv_aload_n hx hb dX0_look_28 rfl (lv_at hl 0 rfl) ?_
    refine va_get (D := (dC, dI)) (ci := 0) (v := .int (nI n)) (C := RX0) (T := TX0) (N := 4) hx hb hts hinX0 hown hK hP 0 rfl rfl 2 (by decide) (hts _ (List.mem_cons_of_mem _ k39)) (fun _ h9 => h9) rfl dX0_look_29 ?_
    subst hQ
    exact W.iret (v := nI n) hx hb hr (fun t ht hW => ⟨nI n, rfl, (by (try dsimp only); unfold sp_look; (repeat' split) <;> first | rfl | (exfalso; omega)), ht⟩) (fun q h => absurd h List.not_mem_nil) dX0_look_32
  by_cases hs1_1 : x.toInt = 1
  · skip
    refine lv_tableIn (off := 32) (tgt := 33) hx hb dX0_look_1 (by omega) (by omega) (by rw [sw1, hs1_1]; first | done | rfl) rfl ?_
    refine lv_aload_n hx hb dX0_look_33 rfl (lv_at hl 0 rfl) ?_
    refine va_get (D := (dC, dI)) (ci := 0) (v := .int (nI k)) (C := RX0) (T := TX0) (N := 4) hx hb hts hinX0 hown hK hP 0 rfl rfl 3 (by decide) (hts _ (List.mem_cons_of_mem _ k40)) (fun _ h9 => h9) rfl dX0_look_34 ?_
    subst hQ
    exact W.iret (v := nI k) hx hb hr (fun t ht hW => ⟨nI k, rfl, (by (try dsimp only); unfold sp_look; (repeat' split) <;> first | rfl | (exfalso; omega)), ht⟩) (fun q h => absurd h List.not_mem_nil) dX0_look_37
  by_cases hs1_2 : x.toInt = 2
  · skip
    refine lv_tableIn (off := 37) (tgt := 38) hx hb dX0_look_1 (by omega) (by omega) (by rw [sw1, hs1_2]; first | done | rfl) rfl ?_
    refine lv_aload_n hx hb dX0_look_38 rfl (lv_at hl 0 rfl) ?_
    refine vp_callSi ((va_runV (As := []) (rest := []) ⟨hx, hb, hml, hown, hts⟩ (c_X_sumOfText l dC dI h0 q0 q1 n k cA cB T G T0 G0 hT hG hn hk ) (cwV 0 hts (gV_ (fun w h => List.mem_cons_of_mem _ h) k224 k226 k11 k21 k227) rfl rfl rfl (by decide +kernel) ⟨Nat.le_of_ble_eq_true rfl, Nat.le_of_ble_eq_true rfl⟩) ⟨fun a U g mk q => by obtain ⟨q0, qP, qK⟩ := q; exact ⟨q0, qP, va_K.moved (u := U) (U := U.calling g mk a) (Vm.Alike.refl U.vm) qK⟩, va_recv hK hP (ci := 0) (q0 := 0) rfl rfl, fun U hU hW => ⟨rfl, by rw [hU]; exact hP, va_K.moved hW.alike hK⟩⟩ rfl rfl hl.1 rfl (lv_room (Nat.le_of_ble_eq_true rfl)) dX0_look_39 ⟨Nat.le_of_ble_eq_true rfl, Nat.le_of_ble_eq_true rfl⟩).run) (fun r39 w39 => ?_)
    try dsimp only at w39
    subst hQ
    exact W.iret (v := r39) hx hb hr (fun t ht hW => ⟨r39, rfl, (by (try dsimp only); unfold sp_look; (repeat' split) <;> first | rfl | (exfalso; omega) | exact w39), ht⟩) (fun q h => absurd h List.not_mem_nil) dX0_look_42
  refine lv_tableOut (tgt := 43) hx hb dX0_look_1 (by omega) rfl ?_
  refine lv_iconst (v := (-1 : Int32)) hx hb dX0_look_43 (by decide) ?_
  subst hQ
  exact W.iret (v := (-1 : Int32)) hx hb hr (fun t ht hW => ⟨(-1 : Int32), rfl, (by (try dsimp only); unfold sp_look; (repeat' split) <;> first | rfl | (exfalso; omega)), ht⟩) (fun q h => absurd h List.not_mem_nil) dX0_look_44
set_option maxHeartbeats 4000000 in
set_option maxRecDepth 100000 in
theorem c_X_compare (l : Launch) (dC : Nat → ClassId) (dI : Nat → Nat → Nat) (h0 q0 q1 n k : Nat) (cA cB : ClassId) (T G T0 G0 : Nat → Int32) (hT : ∀ j, j < n → T j = T0 j) (hG : ∀ j, j < k → G j = G0 j) (hn : n ≤ 3000) (hk : k ≤ 40)  : Met l yX0_compare wsX0_compare ({ frames := 1, cells := 0, slots := 0, locals := 21 } : Room) (va_Pc [.ref h0] (fun U => va_P (dC, dI) vwCl [(h0, .inr (0, [.ref q0, .ref q1, .int (nI n), .int (nI k)])), (q0, .inl (cA, 3000, .inl T)), (q1, .inl (cB, 40, .inl G))] U.heap ∧ va_K (dC, dI) vwCl [(cA, .int), (cB, .int)] U)) (vp_Si (fun r : Int32 => r = sp_compare n T0 k G0)) 0 0 (fun _ => False) := by
  refine Met.ofW (cc := cX0_compare) (maxL := 3) (ret := (some .int)) (by decide) rfl ?_
  intro p e s m args below meth c s₁ B hml hv
  obtain ⟨rfl, hP, hK⟩ := hv
  have hx := B.exec
  have hb := B.bytes
  have hr := B.returns
  have hts := atoms_spec (ws := wsX0_compare) B.pre
  have hown : s.vm.findClass RX0 = some m.cls := findClass_of_methodNamed B.named
  have hlocks := B.notSynchronized
  have hP : va_P (dC, dI) vwCl [(h0, .inr (0, [.ref q0, .ref q1, .int (nI n), .int (nI k)])), (q0, .inl (cA, 3000, .inl T)), (q1, .inl (cB, 40, .inl G))] s.heap := hP
  have hinX0 : ∀ w ∈ u_ws RX0 TX0 4, w ∈ wsX0_compare := fun w h => List.mem_cons_of_mem _ (inX0 w h)
  have hl := lv_entry ([.ref h0]) (n := 3) (Nat.le_of_ble_eq_true rfl)
  rw [lg_entry_eq]
  generalize (lg_sl ([.ref h0]) ++ List.replicate (3 - (lg_sl ([.ref h0])).length) Slot.unset).toArray = ls at hl ⊢
  have hl : lv_has ls 3 [(0, .ref h0)] := hl
  refine tl_q (fun Q hQ => ?_)
  refine lv_aload_n hx hb dX0_compare_0 rfl (lv_at hl 0 rfl) ?_
  refine va_get (D := (dC, dI)) (ci := 0) (v := .int (nI n)) (C := RX0) (T := TX0) (N := 4) hx hb hts hinX0 hown hK hP 0 rfl rfl 2 (by decide) (hts _ (List.mem_cons_of_mem _ k39)) (fun _ h9 => h9) rfl dX0_compare_1 ?_
  refine lv_aload_n hx hb dX0_compare_4 rfl (lv_at hl 0 rfl) ?_
  refine va_get (D := (dC, dI)) (ci := 0) (v := .int (nI k)) (C := RX0) (T := TX0) (N := 4) hx hb hts hinX0 hown hK hP 0 rfl rfl 3 (by decide) (hts _ (List.mem_cons_of_mem _ k40)) (fun _ h9 => h9) rfl dX0_compare_5 ?_
  refine va_mmin hx hb (hml.trans hl.1.symm) hown (hts _ (List.mem_cons_of_mem _ k166)) (hts _ (List.mem_cons_of_mem _ k167)) (hts _ (List.mem_cons_of_mem _ k24)) (hts _ (List.mem_cons_of_mem _ k168)) (Nat.le_of_ble_eq_true rfl) (Nat.le_of_ble_eq_true rfl) (Nat.zero_le _) (Nat.zero_le _) dX0_compare_8 ?_
  refine tl_top (y := nI (min n k)) (tl_min (by omega) (by omega)) ?_
  refine lv_istore_n (lv' := [(1, .int (nI (min n k))), (0, .ref h0)]) hx hb dX0_compare_11 rfl hl (by decide) rfl (fun ls hl => ?_)
  refine lv_iconst (v := nI 0) hx hb dX0_compare_12 (by decide) ?_
  refine lv_istore_n (lv' := [(2, .int (nI 0)), (1, .int (nI (min n k))), (0, .ref h0)]) hx hb dX0_compare_13 rfl hl (by decide) rfl (fun ls hl => ?_)
  have LP14 : ∀ (fu : Nat) (j : Nat) (ls : Array Slot), min n k - j < fu → j ≤ min n k → sp_compare n T0 k G0 = tl_cmp T0 G0 (tl_ord n k) (min n k - j) j → lv_has ls 3 [(0, .ref h0), (1, .int (nI (min n k))), (2, .int (nI j))] → W p l e (headSpec wsX0_compare ({ frames := 1, cells := 0, slots := 0, locals := 21 } : Room)).room s m ([.ref h0] : List Value).toArray below meth c s.heap [] 0 0 Q (F0 m 14 ls []) := by
    intro fu
    induction fu with
    | zero => intro j ls hfu; exact absurd hfu (Nat.not_lt_zero _)
    | succ fu ih =>
      intro j ls hfu hj hf hl
      refine lv_iload_n hx hb dX0_compare_14 rfl (lv_at hl 2 rfl) ?_
      refine lv_iload_n hx hb dX0_compare_15 rfl (lv_at hl 1 rfl) ?_
      refine lv_icmp_ge (tgt := 56) hx hb dX0_compare_16 rfl (fun h16 => ?_) (fun h16 => ?_)
      · skip
        have h16 := (tl_le (show (nI (min n k)).toInt = ((min n k : Nat) : Int) from (nI_toInt (by omega))) (show (nI j).toInt = ((j : Nat) : Int) from (nI_toInt (by omega)))).mp h16
        refine lv_aload_n hx hb dX0_compare_56 rfl (lv_at hl 0 rfl) ?_
        refine va_get (D := (dC, dI)) (ci := 0) (v := .int (nI n)) (C := RX0) (T := TX0) (N := 4) hx hb hts hinX0 hown hK hP 0 rfl rfl 2 (by decide) (hts _ (List.mem_cons_of_mem _ k39)) (fun _ h9 => h9) rfl dX0_compare_57 ?_
        refine lv_aload_n hx hb dX0_compare_60 rfl (lv_at hl 0 rfl) ?_
        refine va_get (D := (dC, dI)) (ci := 0) (v := .int (nI k)) (C := RX0) (T := TX0) (N := 4) hx hb hts hinX0 hown hK hP 0 rfl rfl 3 (by decide) (hts _ (List.mem_cons_of_mem _ k40)) (fun _ h9 => h9) rfl dX0_compare_61 ?_
        have ea64_0 : (nI n).toInt = ((n : Nat) : Int) := (nI_toInt (by omega))
        have ea64_1 : (nI k).toInt = ((k : Nat) : Int) := (nI_toInt (by omega))
        refine vp_callSi ((va_runS (As := [.int (nI n), .int (nI k)]) (rest := []) ⟨hx, hb, hml, hown, hts⟩ (c_X_order l (nI n) (nI k)) (va_cwS 2 hts (gS_ (fun w h => List.mem_cons_of_mem _ h) k236 k237 k21 k238) rfl rfl rfl (by decide +kernel) ⟨Nat.le_of_ble_eq_true rfl, Nat.le_of_ble_eq_true rfl⟩) ⟨fun a U g mk q => q, fun U hU hW => ⟨rfl, trivial⟩⟩ rfl rfl hl.1 rfl (lv_room (Nat.le_of_ble_eq_true rfl)) dX0_compare_64 ⟨Nat.le_of_ble_eq_true rfl, Nat.le_of_ble_eq_true rfl⟩).run) (fun r64 w64 => ?_)
        try dsimp only at w64
        subst hQ
        exact W.iret (v := r64) hx hb hr (fun t ht hW => ⟨r64, rfl, (by rw [hf, show min n k - j = 0 by omega, w64]; exact tl_ordI (by omega) (by omega)), ht⟩) (fun q h => absurd h List.not_mem_nil) dX0_compare_67
      · skip
        have h16 := (not_congr (tl_le (show (nI (min n k)).toInt = ((min n k : Nat) : Int) from (nI_toInt (by omega))) (show (nI j).toInt = ((j : Nat) : Int) from (nI_toInt (by omega))))).mp h16
        refine lv_aload_n hx hb dX0_compare_19 rfl (lv_at hl 0 rfl) ?_
        refine va_get (D := (dC, dI)) (ci := 0) (v := .ref q0) (C := RX0) (T := TX0) (N := 4) hx hb hts hinX0 hown hK hP 0 rfl rfl 0 (by decide) (hts _ (List.mem_cons_of_mem _ k37)) (fun _ h9 => h9) rfl dX0_compare_20 ?_
        refine lv_iload_n hx hb dX0_compare_23 rfl (lv_at hl 2 rfl) ?_
        refine tl_iald (v := T0 j) hx hb hK hP 1 0 rfl rfl (by omega) (by decide) (hT _ (by omega)) dX0_compare_24 ?_
        refine lv_aload_n hx hb dX0_compare_25 rfl (lv_at hl 0 rfl) ?_
        refine va_get (D := (dC, dI)) (ci := 0) (v := .ref q1) (C := RX0) (T := TX0) (N := 4) hx hb hts hinX0 hown hK hP 0 rfl rfl 1 (by decide) (hts _ (List.mem_cons_of_mem _ k38)) (fun _ h9 => h9) rfl dX0_compare_26 ?_
        refine lv_iload_n hx hb dX0_compare_29 rfl (lv_at hl 2 rfl) ?_
        refine tl_iald (v := G0 j) hx hb hK hP 2 1 rfl rfl (by omega) (by decide) (hG _ (by omega)) dX0_compare_30 ?_
        refine lv_icmp_eq (tgt := 50) hx hb dX0_compare_31 rfl (fun h31 => ?_) (fun h31 => ?_)
        · skip
          have h31 := (tl_eq (show (T0 j).toInt = (T0 j).toInt from rfl) (show (G0 j).toInt = (G0 j).toInt from rfl)).mp h31
          refine lv_iinc (lv' := [(2, .int (nI (j + 1))), (0, .ref h0), (1, .int (nI (min n k)))]) (k := 2) (v := nI (j + 1)) hx hb dX0_compare_50 hl rfl (tl_inc1 _) (by decide) rfl (fun ls hl => ?_)
          refine lv_goto (tgt := 14) hx hb dX0_compare_53 rfl ?_
          exact ih (j + 1) ls (by omega) (by omega) (by rw [hf, tl_cmp_step (by omega), if_pos h31]) (lv_sub hl [1, 2, 0] rfl)
        · skip
          have h31 := (not_congr (tl_eq (show (T0 j).toInt = (T0 j).toInt from rfl) (show (G0 j).toInt = (G0 j).toInt from rfl))).mp h31
          refine lv_aload_n hx hb dX0_compare_34 rfl (lv_at hl 0 rfl) ?_
          refine va_get (D := (dC, dI)) (ci := 0) (v := .ref q0) (C := RX0) (T := TX0) (N := 4) hx hb hts hinX0 hown hK hP 0 rfl rfl 0 (by decide) (hts _ (List.mem_cons_of_mem _ k37)) (fun _ h9 => h9) rfl dX0_compare_35 ?_
          refine lv_iload_n hx hb dX0_compare_38 rfl (lv_at hl 2 rfl) ?_
          refine tl_iald (v := T0 j) hx hb hK hP 1 0 rfl rfl (by omega) (by decide) (hT _ (by omega)) dX0_compare_39 ?_
          refine lv_aload_n hx hb dX0_compare_40 rfl (lv_at hl 0 rfl) ?_
          refine va_get (D := (dC, dI)) (ci := 0) (v := .ref q1) (C := RX0) (T := TX0) (N := 4) hx hb hts hinX0 hown hK hP 0 rfl rfl 1 (by decide) (hts _ (List.mem_cons_of_mem _ k38)) (fun _ h9 => h9) rfl dX0_compare_41 ?_
          refine lv_iload_n hx hb dX0_compare_44 rfl (lv_at hl 2 rfl) ?_
          refine tl_iald (v := G0 j) hx hb hK hP 2 1 rfl rfl (by omega) (by decide) (hG _ (by omega)) dX0_compare_45 ?_
          refine vp_callSi ((va_runS (As := [.int (T0 j), .int (G0 j)]) (rest := []) ⟨hx, hb, hml, hown, hts⟩ (c_X_order l (T0 j) (G0 j)) (va_cwS 2 hts (gS_ (fun w h => List.mem_cons_of_mem _ h) k236 k237 k21 k238) rfl rfl rfl (by decide +kernel) ⟨Nat.le_of_ble_eq_true rfl, Nat.le_of_ble_eq_true rfl⟩) ⟨fun a U g mk q => q, fun U hU hW => ⟨rfl, trivial⟩⟩ rfl rfl hl.1 rfl (lv_room (Nat.le_of_ble_eq_true rfl)) dX0_compare_46 ⟨Nat.le_of_ble_eq_true rfl, Nat.le_of_ble_eq_true rfl⟩).run) (fun r46 w46 => ?_)
          try dsimp only at w46
          subst hQ
          exact W.iret (v := r46) hx hb hr (fun t ht hW => ⟨r46, rfl, (by rw [hf, tl_cmp_step (by omega), if_neg h31, w46, if_neg h31]), ht⟩) (fun q h => absurd h List.not_mem_nil) dX0_compare_49
  exact LP14 _ 0 ls (Nat.lt_succ_self _) (by omega) (by rfl) (lv_sub hl [2, 1, 0] rfl)
set_option maxHeartbeats 4000000 in
set_option maxRecDepth 100000 in
theorem c_X_find (l : Launch) (dC : Nat → ClassId) (dI : Nat → Nat → Nat) (h0 q0 q1 n k : Nat) (cA cB : ClassId) (T G T0 G0 : Nat → Int32) (hT : ∀ j, j < n → T j = T0 j) (hG : ∀ j, j < k → G j = G0 j) (hn : n ≤ 3000) (hk : k ≤ 40) (x d : Int32) : Met l yX0_find wsX0_find ({ frames := 2, cells := 0, slots := 0, locals := 46 } : Room) (va_Pc [.ref h0, .int x, .int d] (fun U => va_P (dC, dI) vwCl [(h0, .inr (0, [.ref q0, .ref q1, .int (nI n), .int (nI k)])), (q0, .inl (cA, 3000, .inl T)), (q1, .inl (cB, 40, .inl G))] U.heap ∧ va_K (dC, dI) vwCl [(cA, .int), (cB, .int)] U)) (vp_Si (fun r : Int32 => r = sp_find x d n T0 k G0)) 0 0 (fun _ => False) := by
  refine Met.ofW (cc := cX0_find) (maxL := 3) (ret := (some .int)) (by decide) rfl ?_
  intro p e s m args below meth c s₁ B hml hv
  obtain ⟨rfl, hP, hK⟩ := hv
  have hx := B.exec
  have hb := B.bytes
  have hr := B.returns
  have hts := atoms_spec (ws := wsX0_find) B.pre
  have hown : s.vm.findClass RX0 = some m.cls := findClass_of_methodNamed B.named
  have hlocks := B.notSynchronized
  have hP : va_P (dC, dI) vwCl [(h0, .inr (0, [.ref q0, .ref q1, .int (nI n), .int (nI k)])), (q0, .inl (cA, 3000, .inl T)), (q1, .inl (cB, 40, .inl G))] s.heap := hP
  have hinX0 : ∀ w ∈ u_ws RX0 TX0 4, w ∈ wsX0_find := fun w h => List.mem_cons_of_mem _ (inX0 w h)
  have hl := lv_entry ([.ref h0, .int x, .int d]) (n := 3) (Nat.le_of_ble_eq_true rfl)
  rw [lg_entry_eq]
  generalize (lg_sl ([.ref h0, .int x, .int d]) ++ List.replicate (3 - (lg_sl ([.ref h0, .int x, .int d])).length) Slot.unset).toArray = ls at hl ⊢
  have hl : lv_has ls 3 [(0, .ref h0), (1, .int x), (2, .int d)] := hl
  refine tl_q (fun Q hQ => ?_)
  refine lv_iload_n hx hb dX0_find_0 rfl (lv_at hl 2 rfl) ?_
  refine lv_if_eq (tgt := 12) hx hb dX0_find_1 rfl (fun h1 => ?_) (fun h1 => ?_)
  · skip
    have h1 := (tl_eq (show d.toInt = d.toInt from rfl) (show (0 : Int32).toInt = (0 : Int) from Int32.toInt_zero)).mp h1
    refine lv_aload_n hx hb dX0_find_12 rfl (lv_at hl 0 rfl) ?_
    refine lv_iload_n hx hb dX0_find_13 rfl (lv_at hl 1 rfl) ?_
    refine vp_callSi ((va_runV (As := [.int x]) (rest := []) ⟨hx, hb, hml, hown, hts⟩ (c_X_findForward l dC dI h0 q0 q1 n k cA cB T G T0 G0 hT hG hn hk x) (cwV 1 hts (gV_ (fun w h => List.mem_cons_of_mem _ h) k205 k207 k10 k21 k208) rfl rfl rfl (by decide +kernel) ⟨Nat.le_of_ble_eq_true rfl, Nat.le_of_ble_eq_true rfl⟩) ⟨fun a U g mk q => by obtain ⟨q0, qP, qK⟩ := q; exact ⟨q0, qP, va_K.moved (u := U) (U := U.calling g mk a) (Vm.Alike.refl U.vm) qK⟩, va_recv hK hP (ci := 0) (q0 := 0) rfl rfl, fun U hU hW => ⟨rfl, by rw [hU]; exact hP, va_K.moved hW.alike hK⟩⟩ rfl rfl hl.1 rfl (lv_room (Nat.le_of_ble_eq_true rfl)) dX0_find_14 ⟨Nat.le_of_ble_eq_true rfl, Nat.le_of_ble_eq_true rfl⟩).run) (fun r14 w14 => ?_)
    try dsimp only at w14
    subst hQ
    exact W.iret (v := r14) hx hb hr (fun t ht hW => ⟨r14, rfl, (by unfold sp_find; first | (rw [if_pos h1]; assumption) | (rw [if_neg h1]; assumption)), ht⟩) (fun q h => absurd h List.not_mem_nil) dX0_find_17
  · skip
    have h1 := (not_congr (tl_eq (show d.toInt = d.toInt from rfl) (show (0 : Int32).toInt = (0 : Int) from Int32.toInt_zero))).mp h1
    refine lv_aload_n hx hb dX0_find_4 rfl (lv_at hl 0 rfl) ?_
    refine lv_iload_n hx hb dX0_find_5 rfl (lv_at hl 1 rfl) ?_
    refine vp_callSi ((va_runV (As := [.int x]) (rest := []) ⟨hx, hb, hml, hown, hts⟩ (c_X_findBackward l dC dI h0 q0 q1 n k cA cB T G T0 G0 hT hG hn hk x) (cwV 1 hts (gV_ (fun w h => List.mem_cons_of_mem _ h) k197 k199 k8 k21 k200) rfl rfl rfl (by decide +kernel) ⟨Nat.le_of_ble_eq_true rfl, Nat.le_of_ble_eq_true rfl⟩) ⟨fun a U g mk q => by obtain ⟨q0, qP, qK⟩ := q; exact ⟨q0, qP, va_K.moved (u := U) (U := U.calling g mk a) (Vm.Alike.refl U.vm) qK⟩, va_recv hK hP (ci := 0) (q0 := 0) rfl rfl, fun U hU hW => ⟨rfl, by rw [hU]; exact hP, va_K.moved hW.alike hK⟩⟩ rfl rfl hl.1 rfl (lv_room (Nat.le_of_ble_eq_true rfl)) dX0_find_6 ⟨Nat.le_of_ble_eq_true rfl, Nat.le_of_ble_eq_true rfl⟩).run) (fun r6 w6 => ?_)
    try dsimp only at w6
    refine lv_goto (tgt := 17) hx hb dX0_find_9 rfl ?_
    subst hQ
    exact W.iret (v := r6) hx hb hr (fun t ht hW => ⟨r6, rfl, (by unfold sp_find; first | (rw [if_pos h1]; assumption) | (rw [if_neg h1]; assumption)), ht⟩) (fun q h => absurd h List.not_mem_nil) dX0_find_17
end
section
set_option maxHeartbeats 4000000 in
set_option maxRecDepth 100000 in
theorem c_X_note (l : Launch) (dC : Nat → ClassId) (dI : Nat → Nat → Nat) (h0 q0 q1 sz n k : Nat) (cA cB : ClassId) (T G T0 G0 : Nat → Int32) (hT : ∀ j, j < n → T j = T0 j) (hG : ∀ j, j < k → G j = G0 j) (hn : n ≤ 3000) (hk : k ≤ 40) (x : Int32) : Met l yX0_note wsX0_note ({ frames := 1, cells := 0, slots := 0, locals := 21 } : Room) (va_Pc [.ref h0, .int x] (fun U => U.heap.size = sz ∧ va_P (dC, dI) vwCl [(h0, .inr (0, [.ref q0, .ref q1, .int (nI n), .int (nI k)])), (q0, .inl (cA, 3000, .inl T)), (q1, .inl (cB, 40, .inl G))] U.heap ∧ va_K (dC, dI) vwCl [(cA, .int), (cB, .int)] U ∧ va_D (fun _ => True) [(h0, .inr (0, [.ref q0, .ref q1, .int (nI n), .int (nI k)])), (q0, .inl (cA, 3000, .inl T)), (q1, .inl (cB, 40, .inl G))])) (va_Qi (fun (r : Int32) (u : tS) => r = (sp_note x n T0 k G0).1 ∧ tE u (sp_note x n T0 k G0).2) (at_X dC dI (va_A [(h0, .inr (0, [.ref q0, .ref q1, .int (nI n), .int (nI k)])), (q0, .inl (cA, 3000, .inl T)), (q1, .inl (cB, 40, .inl G))] sz) h0 q0 q1 cA cB) (va_A [(h0, .inr (0, [.ref q0, .ref q1, .int (nI n), .int (nI k)])), (q0, .inl (cA, 3000, .inl T)), (q1, .inl (cB, 40, .inl G))] sz)) 0 0 (va_A [(h0, .inr (0, [.ref q0, .ref q1, .int (nI n), .int (nI k)])), (q0, .inl (cA, 3000, .inl T)), (q1, .inl (cB, 40, .inl G))] sz) := by
  refine Met.ofW (cc := cX0_note) (maxL := 2) (ret := (some .int)) (by decide) rfl ?_
  intro p e s m args below meth c s₁ B hml hv
  obtain ⟨rfl, hsz, hP, hK, hD0⟩ := hv
  have hx := B.exec
  have hb := B.bytes
  have hr := B.returns
  have hts := atoms_spec (ws := wsX0_note) B.pre
  have hown : s.vm.findClass RX0 = some m.cls := findClass_of_methodNamed B.named
  have hlocks := B.notSynchronized
  subst hsz
  have hD := hD0.self (sz := s.heap.size)
  generalize hAe : va_A [(h0, .inr (0, [.ref q0, .ref q1, .int (nI n), .int (nI k)])), (q0, .inl (cA, 3000, .inl T)), (q1, .inl (cB, 40, .inl G))] s.heap.size = A at hD ⊢
  have hA : ∀ q : Nat, s.heap.size ≤ q → A q := fun q h => by rw [← hAe]; exact Or.inr h
  have hS : va_S A s.heap s.heap [] := va_S.rf
  have hP : va_P (dC, dI) vwCl [(h0, .inr (0, [.ref q0, .ref q1, .int (nI n), .int (nI k)])), (q0, .inl (cA, 3000, .inl T)), (q1, .inl (cB, 40, .inl G))] s.heap := hP
  have hinX0 : ∀ w ∈ u_ws RX0 TX0 4, w ∈ wsX0_note := fun w h => List.mem_cons_of_mem _ (inX0 w h)
  have hl := lv_entry ([.ref h0, .int x]) (n := 2) (Nat.le_of_ble_eq_true rfl)
  rw [lg_entry_eq]
  generalize (lg_sl ([.ref h0, .int x]) ++ List.replicate (2 - (lg_sl ([.ref h0, .int x])).length) Slot.unset).toArray = ls at hl ⊢
  have hl : lv_has ls 2 [(0, .ref h0), (1, .int x)] := hl
  refine tl_q (fun Q hQ => ?_)
  refine lv_iload_n hx hb dX0_note_0 rfl (lv_at hl 1 rfl) ?_
  refine lv_i2l hx hb dX0_note_1 rfl ?_
  have ea2_0 : x.toInt64.toInt = x.toInt := ((Int32.toInt_toInt64 _).trans rfl)
  refine vp_callSi ((va_runS (As := [.long x.toInt64]) (rest := []) ⟨hx, hb, hml, hown, hts⟩ (c_X_isSign l x.toInt64) (va_cwS 1 hts (gS_ (fun w h => List.mem_cons_of_mem _ h) k55 k56 k21 k57) rfl rfl rfl (by decide +kernel) ⟨Nat.le_of_ble_eq_true rfl, Nat.le_of_ble_eq_true rfl⟩) ⟨fun a U g mk q => q, fun U hU hW => ⟨rfl, trivial⟩⟩ rfl rfl hl.1 rfl (lv_room (Nat.le_of_ble_eq_true rfl)) dX0_note_2 ⟨Nat.le_of_ble_eq_true rfl, Nat.le_of_ble_eq_true rfl⟩).run) (fun r2 w2 => ?_)
  try dsimp only at w2
  refine lv_if_ne (tgt := 10) hx hb dX0_note_5 rfl (fun h5 => ?_) (fun h5 => ?_)
  · skip
    have h5 := (tl_b1 w2).mp h5
    refine lv_aload_n hx hb dX0_note_10 rfl (lv_at hl 0 rfl) ?_
    refine va_get (D := (dC, dI)) (ci := 0) (v := .int (nI k)) (C := RX0) (T := TX0) (N := 4) hx hb hts hinX0 hown hK hP 0 rfl rfl 3 (by decide) (hts _ (List.mem_cons_of_mem _ k40)) (fun _ h9 => h9) rfl dX0_note_11 ?_
    refine lv_bipush (v := nI 40) hx hb dX0_note_14 (by decide) ?_
    refine lv_icmp_lt (tgt := 22) hx hb dX0_note_16 rfl (fun h16 => ?_) (fun h16 => ?_)
    · skip
      have h16 := (tl_lt (show (nI k).toInt = ((k : Nat) : Int) from (nI_toInt (by omega))) (show (nI 40).toInt = (40 : Int) from (by decide))).mp h16
      refine lv_aload_n hx hb dX0_note_22 rfl (lv_at hl 0 rfl) ?_
      refine va_get (D := (dC, dI)) (ci := 0) (v := .ref q1) (C := RX0) (T := TX0) (N := 4) hx hb hts hinX0 hown hK hP 0 rfl rfl 1 (by decide) (hts _ (List.mem_cons_of_mem _ k38)) (fun _ h9 => h9) rfl dX0_note_23 ?_
      refine lv_aload_n hx hb dX0_note_26 rfl (lv_at hl 0 rfl) ?_
      refine va_get (D := (dC, dI)) (ci := 0) (v := .int (nI k)) (C := RX0) (T := TX0) (N := 4) hx hb hts hinX0 hown hK hP 0 rfl rfl 3 (by decide) (hts _ (List.mem_cons_of_mem _ k40)) (fun _ h9 => h9) rfl dX0_note_27 ?_
      refine lv_iload_n hx hb dX0_note_30 rfl (lv_at hl 1 rfl) ?_
      refine tl_iast hx hb hK hP hD hS 2 1 rfl rfl (by omega) (by decide) dX0_note_31 (fun H locs hP hD hS => ?_)
      have hP : va_P (dC, dI) vwCl [(h0, .inr (0, [.ref q0, .ref q1, .int (nI n), .int (nI k)])), (q0, .inl (cA, 3000, .inl T)), (q1, .inl (cB, 40, .inl (upd G k x)))] H := hP
      have hD : va_D A [(h0, .inr (0, [.ref q0, .ref q1, .int (nI n), .int (nI k)])), (q0, .inl (cA, 3000, .inl T)), (q1, .inl (cB, 40, .inl (upd G k x)))] := hD
      refine lv_aload_n hx hb dX0_note_32 rfl (lv_at hl 0 rfl) ?_
      refine lv_dup hx hb dX0_note_33 rfl ?_
      refine va_get (D := (dC, dI)) (ci := 0) (v := .int (nI k)) (C := RX0) (T := TX0) (N := 4) hx hb hts hinX0 hown hK hP 0 rfl rfl 3 (by decide) (hts _ (List.mem_cons_of_mem _ k40)) (fun _ h9 => h9) rfl dX0_note_34 ?_
      refine lv_iconst (v := nI 1) hx hb dX0_note_37 (by decide) ?_
      refine lv_iadd hx hb dX0_note_38 ?_
      refine tl_top (nI_add _ _) ?_
      refine va_put (D := (dC, dI)) (ci := 0) (v := .int (nI (k + 1))) (ty := .int) (C := RX0) (T := TX0) (N := 4) hx hb hts hinX0 tyX0 tyX0_ok nmX0 hown hK hP hD hS 0 rfl rfl 3 (by decide) (hts _ (List.mem_cons_of_mem _ k40)) (fun _ h9 => h9) rfl (by decide +kernel) rfl rfl (Nat.le_of_ble_eq_true rfl) dX0_note_39 (fun H locs hP hD hS => ?_)
      have hP : va_P (dC, dI) vwCl [(h0, .inr (0, [.ref q0, .ref q1, .int (nI n), .int (nI (k + 1))])), (q0, .inl (cA, 3000, .inl T)), (q1, .inl (cB, 40, .inl (upd G k x)))] H := hP
      have hD : va_D A [(h0, .inr (0, [.ref q0, .ref q1, .int (nI n), .int (nI (k + 1))])), (q0, .inl (cA, 3000, .inl T)), (q1, .inl (cB, 40, .inl (upd G k x)))] := hD
      refine lv_aload_n hx hb dX0_note_42 rfl (lv_at hl 0 rfl) ?_
      refine va_get (D := (dC, dI)) (ci := 0) (v := .int (nI (k + 1))) (C := RX0) (T := TX0) (N := 4) hx hb hts hinX0 hown hK hP 0 rfl rfl 3 (by decide) (hts _ (List.mem_cons_of_mem _ k40)) (fun _ h9 => h9) rfl dX0_note_43 ?_
      subst hQ
      exact W.iret (v := nI (k + 1)) hx hb hr (fun t ht hW => ⟨⟨nI (k + 1), (n, T, k + 1, upd G k x), rfl, (by rw [(show sp_note x n T0 k G0 = (nI (k + 1), (n, T0, k + 1, upd G0 k x)) from (by unfold sp_note; (repeat' split) <;> first | rfl | (exfalso; omega)))]; exact ⟨rfl, tE_mk hT (pu_up hG) hn (by omega)⟩), by rw [ht]; exact hP, va_K.moved hW.alike hK, hD⟩, hS.F ht⟩) hS.2.2 dX0_note_46
    · skip
      have h16 := (not_congr (tl_lt (show (nI k).toInt = ((k : Nat) : Int) from (nI_toInt (by omega))) (show (nI 40).toInt = (40 : Int) from (by decide)))).mp h16
      refine lv_bipush (v := (-3 : Int32)) hx hb dX0_note_19 (by decide) ?_
      subst hQ
      exact W.iret (v := (-3 : Int32)) hx hb hr (fun t ht hW => ⟨⟨(-3 : Int32), (n, T, k, G), rfl, (by rw [(show sp_note x n T0 k G0 = ((-3 : Int32), (n, T0, k, G0)) from (by unfold sp_note; (repeat' split) <;> first | rfl | (exfalso; omega)))]; exact ⟨rfl, tE_mk hT hG hn hk⟩), by rw [ht]; exact hP, va_K.moved hW.alike hK, hD⟩, hS.F ht⟩) hS.2.2 dX0_note_21
  · skip
    have h5 := (tl_b0 w2).mp h5
    refine lv_iconst (v := (-1 : Int32)) hx hb dX0_note_8 (by decide) ?_
    subst hQ
    exact W.iret (v := (-1 : Int32)) hx hb hr (fun t ht hW => ⟨⟨(-1 : Int32), (n, T, k, G), rfl, (by rw [(show sp_note x n T0 k G0 = ((-1 : Int32), (n, T0, k, G0)) from (by unfold sp_note; (repeat' split) <;> first | rfl | (exfalso; omega)))]; exact ⟨rfl, tE_mk hT hG hn hk⟩), by rw [ht]; exact hP, va_K.moved hW.alike hK, hD⟩, hS.F ht⟩) hS.2.2 dX0_note_9
set_option maxHeartbeats 4000000 in
set_option maxRecDepth 100000 in
theorem c_X_drop (l : Launch) (dC : Nat → ClassId) (dI : Nat → Nat → Nat) (h0 q0 q1 sz n k : Nat) (cA cB : ClassId) (T G T0 G0 : Nat → Int32) (hT : ∀ j, j < n → T j = T0 j) (hG : ∀ j, j < k → G j = G0 j) (hn : n ≤ 3000) (hk : k ≤ 40)  : Met l yX0_drop wsX0_drop ({ frames := 0, cells := 0, slots := 0, locals := 0 } : Room) (va_Pc [.ref h0] (fun U => U.heap.size = sz ∧ va_P (dC, dI) vwCl [(h0, .inr (0, [.ref q0, .ref q1, .int (nI n), .int (nI k)])), (q0, .inl (cA, 3000, .inl T)), (q1, .inl (cB, 40, .inl G))] U.heap ∧ va_K (dC, dI) vwCl [(cA, .int), (cB, .int)] U ∧ va_D (fun _ => True) [(h0, .inr (0, [.ref q0, .ref q1, .int (nI n), .int (nI k)])), (q0, .inl (cA, 3000, .inl T)), (q1, .inl (cB, 40, .inl G))])) (va_Qi (fun (r : Int32) (u : tS) => r = (sp_drop n T0 k G0).1 ∧ tE u (sp_drop n T0 k G0).2) (at_X dC dI (va_A [(h0, .inr (0, [.ref q0, .ref q1, .int (nI n), .int (nI k)])), (q0, .inl (cA, 3000, .inl T)), (q1, .inl (cB, 40, .inl G))] sz) h0 q0 q1 cA cB) (va_A [(h0, .inr (0, [.ref q0, .ref q1, .int (nI n), .int (nI k)])), (q0, .inl (cA, 3000, .inl T)), (q1, .inl (cB, 40, .inl G))] sz)) 0 0 (va_A [(h0, .inr (0, [.ref q0, .ref q1, .int (nI n), .int (nI k)])), (q0, .inl (cA, 3000, .inl T)), (q1, .inl (cB, 40, .inl G))] sz) := by
  refine Met.ofW (cc := cX0_drop) (maxL := 2) (ret := (some .int)) (by decide) rfl ?_
  intro p e s m args below meth c s₁ B hml hv
  obtain ⟨rfl, hsz, hP, hK, hD0⟩ := hv
  have hx := B.exec
  have hb := B.bytes
  have hr := B.returns
  have hts := atoms_spec (ws := wsX0_drop) B.pre
  have hown : s.vm.findClass RX0 = some m.cls := findClass_of_methodNamed B.named
  have hlocks := B.notSynchronized
  subst hsz
  have hD := hD0.self (sz := s.heap.size)
  generalize hAe : va_A [(h0, .inr (0, [.ref q0, .ref q1, .int (nI n), .int (nI k)])), (q0, .inl (cA, 3000, .inl T)), (q1, .inl (cB, 40, .inl G))] s.heap.size = A at hD ⊢
  have hA : ∀ q : Nat, s.heap.size ≤ q → A q := fun q h => by rw [← hAe]; exact Or.inr h
  have hS : va_S A s.heap s.heap [] := va_S.rf
  have hP : va_P (dC, dI) vwCl [(h0, .inr (0, [.ref q0, .ref q1, .int (nI n), .int (nI k)])), (q0, .inl (cA, 3000, .inl T)), (q1, .inl (cB, 40, .inl G))] s.heap := hP
  have hinX0 : ∀ w ∈ u_ws RX0 TX0 4, w ∈ wsX0_drop := fun w h => List.mem_cons_of_mem _ (inX0 w h)
  have hl := lv_entry ([.ref h0]) (n := 2) (Nat.le_of_ble_eq_true rfl)
  rw [lg_entry_eq]
  generalize (lg_sl ([.ref h0]) ++ List.replicate (2 - (lg_sl ([.ref h0])).length) Slot.unset).toArray = ls at hl ⊢
  have hl : lv_has ls 2 [(0, .ref h0)] := hl
  refine tl_q (fun Q hQ => ?_)
  refine lv_aload_n hx hb dX0_drop_0 rfl (lv_at hl 0 rfl) ?_
  refine va_get (D := (dC, dI)) (ci := 0) (v := .int (nI k)) (C := RX0) (T := TX0) (N := 4) hx hb hts hinX0 hown hK hP 0 rfl rfl 3 (by decide) (hts _ (List.mem_cons_of_mem _ k40)) (fun _ h9 => h9) rfl dX0_drop_1 ?_
  refine lv_istore_n (lv' := [(1, .int (nI k)), (0, .ref h0)]) hx hb dX0_drop_4 rfl hl (by decide) rfl (fun ls hl => ?_)
  refine lv_aload_n hx hb dX0_drop_5 rfl (lv_at hl 1 rfl) ?_
  refine lv_iconst (v := nI 0) hx hb dX0_drop_6 (by decide) ?_
  refine va_put (D := (dC, dI)) (ci := 0) (v := .int (nI 0)) (ty := .int) (C := RX0) (T := TX0) (N := 4) hx hb hts hinX0 tyX0 tyX0_ok nmX0 hown hK hP hD hS 0 rfl rfl 3 (by decide) (hts _ (List.mem_cons_of_mem _ k40)) (fun _ h9 => h9) rfl (by decide +kernel) rfl rfl (Nat.le_of_ble_eq_true rfl) dX0_drop_7 (fun H locs hP hD hS => ?_)
  have hP : va_P (dC, dI) vwCl [(h0, .inr (0, [.ref q0, .ref q1, .int (nI n), .int (nI 0)])), (q0, .inl (cA, 3000, .inl T)), (q1, .inl (cB, 40, .inl G))] H := hP
  have hD : va_D A [(h0, .inr (0, [.ref q0, .ref q1, .int (nI n), .int (nI 0)])), (q0, .inl (cA, 3000, .inl T)), (q1, .inl (cB, 40, .inl G))] := hD
  refine lv_iload_n hx hb dX0_drop_10 rfl (lv_at hl 0 rfl) ?_
  subst hQ
  exact W.iret (v := nI k) hx hb hr (fun t ht hW => ⟨⟨nI k, (n, T, 0, G), rfl, ⟨rfl, tE_mk hT (fun j hj => absurd hj (Nat.not_lt_zero j)) hn (by omega)⟩, by rw [ht]; exact hP, va_K.moved hW.alike hK, hD⟩, hS.F ht⟩) hS.2.2 dX0_drop_11
set_option maxHeartbeats 4000000 in
set_option maxRecDepth 100000 in
theorem c_X_insert (l : Launch) (dC : Nat → ClassId) (dI : Nat → Nat → Nat) (h0 q0 q1 sz n k : Nat) (cA cB : ClassId) (T G T0 G0 : Nat → Int32) (hT : ∀ j, j < n → T j = T0 j) (hG : ∀ j, j < k → G j = G0 j) (hn : n ≤ 3000) (hk : k ≤ 40) (x d : Int32) (y : Int64) : Met l yX0_insert wsX0_insert ({ frames := 3, cells := 0, slots := 0, locals := 72 } : Room) (va_Pc [.ref h0, .int x, .int d, .long y] (fun U => U.heap.size = sz ∧ va_P (dC, dI) vwCl [(h0, .inr (0, [.ref q0, .ref q1, .int (nI n), .int (nI k)])), (q0, .inl (cA, 3000, .inl T)), (q1, .inl (cB, 40, .inl G))] U.heap ∧ va_K (dC, dI) vwCl [(cA, .int), (cB, .int)] U ∧ va_D (fun _ => True) [(h0, .inr (0, [.ref q0, .ref q1, .int (nI n), .int (nI k)])), (q0, .inl (cA, 3000, .inl T)), (q1, .inl (cB, 40, .inl G))])) (va_Qi (fun (r : Int32) (u : tS) => r = (sp_insert x d y n T0 k G0).1 ∧ tE u (sp_insert x d y n T0 k G0).2) (at_X dC dI (va_A [(h0, .inr (0, [.ref q0, .ref q1, .int (nI n), .int (nI k)])), (q0, .inl (cA, 3000, .inl T)), (q1, .inl (cB, 40, .inl G))] sz) h0 q0 q1 cA cB) (va_A [(h0, .inr (0, [.ref q0, .ref q1, .int (nI n), .int (nI k)])), (q0, .inl (cA, 3000, .inl T)), (q1, .inl (cB, 40, .inl G))] sz)) 0 0 (va_A [(h0, .inr (0, [.ref q0, .ref q1, .int (nI n), .int (nI k)])), (q0, .inl (cA, 3000, .inl T)), (q1, .inl (cB, 40, .inl G))] sz) := by
  refine Met.ofW (cc := cX0_insert) (maxL := 5) (ret := (some .int)) (by decide) rfl ?_
  intro p e s m args below meth c s₁ B hml hv
  obtain ⟨rfl, hsz, hP, hK, hD0⟩ := hv
  have hx := B.exec
  have hb := B.bytes
  have hr := B.returns
  have hts := atoms_spec (ws := wsX0_insert) B.pre
  have hown : s.vm.findClass RX0 = some m.cls := findClass_of_methodNamed B.named
  have hlocks := B.notSynchronized
  subst hsz
  have hD := hD0.self (sz := s.heap.size)
  generalize hAe : va_A [(h0, .inr (0, [.ref q0, .ref q1, .int (nI n), .int (nI k)])), (q0, .inl (cA, 3000, .inl T)), (q1, .inl (cB, 40, .inl G))] s.heap.size = A at hD ⊢
  have hA : ∀ q : Nat, s.heap.size ≤ q → A q := fun q h => by rw [← hAe]; exact Or.inr h
  have hS : va_S A s.heap s.heap [] := va_S.rf
  have hP : va_P (dC, dI) vwCl [(h0, .inr (0, [.ref q0, .ref q1, .int (nI n), .int (nI k)])), (q0, .inl (cA, 3000, .inl T)), (q1, .inl (cB, 40, .inl G))] s.heap := hP
  have hinX0 : ∀ w ∈ u_ws RX0 TX0 4, w ∈ wsX0_insert := fun w h => List.mem_cons_of_mem _ (inX0 w h)
  have hl := lv_entry ([.ref h0, .int x, .int d, .long y]) (n := 5) (Nat.le_of_ble_eq_true rfl)
  rw [lg_entry_eq]
  generalize (lg_sl ([.ref h0, .int x, .int d, .long y]) ++ List.replicate (5 - (lg_sl ([.ref h0, .int x, .int d, .long y])).length) Slot.unset).toArray = ls at hl ⊢
  have hl : lv_has ls 5 [(0, .ref h0), (1, .int x), (2, .int d), (3, .long y)] := hl
  refine tl_q (fun Q hQ => ?_)
  refine lv_aload_n hx hb dX0_insert_0 rfl (lv_at hl 0 rfl) ?_
  refine lv_iload_n hx hb dX0_insert_1 rfl (lv_at hl 1 rfl) ?_
  refine vp_callSi ((va_runV (As := [.int x]) (rest := []) ⟨hx, hb, hml, hown, hts⟩ (c_X_isPlaceOrEnd l dC dI h0 q0 q1 n k cA cB T G T0 G0 hT hG hn hk x) (cwV 1 hts (gV_ (fun w h => List.mem_cons_of_mem _ h) k158 k160 k6 k21 k161) rfl rfl rfl (by decide +kernel) ⟨Nat.le_of_ble_eq_true rfl, Nat.le_of_ble_eq_true rfl⟩) ⟨fun a U g mk q => by obtain ⟨q0, qP, qK⟩ := q; exact ⟨q0, qP, va_K.moved (u := U) (U := U.calling g mk a) (Vm.Alike.refl U.vm) qK⟩, va_recv hK hP (ci := 0) (q0 := 0) rfl rfl, fun U hU hW => ⟨rfl, by rw [hU]; exact hP, va_K.moved hW.alike hK⟩⟩ rfl rfl hl.1 rfl (lv_room (Nat.le_of_ble_eq_true rfl)) dX0_insert_2 ⟨Nat.le_of_ble_eq_true rfl, Nat.le_of_ble_eq_true rfl⟩).run) (fun r2 w2 => ?_)
  try dsimp only at w2
  refine lv_if_ne (tgt := 10) hx hb dX0_insert_5 rfl (fun h5 => ?_) (fun h5 => ?_)
  · skip
    have h5 := (tl_b1 w2).mp h5
    obtain ⟨a, lta, rfl⟩ := tl_of (x := x) (by omega)
    have ea : (nI a).toInt = ((a : Nat) : Int) := nI_toInt lta
    refine lv_iload_n hx hb dX0_insert_10 rfl (lv_at hl 2 rfl) ?_
    refine lv_if_eq (tgt := 23) hx hb dX0_insert_11 rfl (fun h11 => ?_) (fun h11 => ?_)
    · skip
      have h11 := (tl_eq (show d.toInt = d.toInt from rfl) (show (0 : Int32).toInt = (0 : Int) from Int32.toInt_zero)).mp h11
      refine lv_aload_n hx hb dX0_insert_23 rfl (lv_at hl 0 rfl) ?_
      refine lv_iload_n hx hb dX0_insert_24 rfl (lv_at hl 1 rfl) ?_
      refine lv_iload_n hx hb dX0_insert_25 rfl (lv_at hl 1 rfl) ?_
      have hPc := hP.sub (ws' := [(h0, .inr (0, [.ref q0, .ref q1, .int (nI n), .int (nI k)])), (q0, .inl (cA, 3000, .inl T)), (q1, .inl (cB, 40, .inl G))]) [0, 1, 2] rfl
      have hDc := hD.sub (ws' := [(h0, .inr (0, [.ref q0, .ref q1, .int (nI n), .int (nI k)])), (q0, .inl (cA, 3000, .inl T)), (q1, .inl (cB, 40, .inl G))]) [0, 1, 2] (by decide) rfl
      have hKc := hK
      have hFc := va_free (wc := [(h0, .inr (0, [.ref q0, .ref q1, .int (nI n), .int (nI k)])), (q0, .inl (cA, 3000, .inl T)), (q1, .inl (cB, 40, .inl G))]) hD hS hA [0, 1, 2] rfl
      refine va_calli (va_runV (As := [.int (nI a), .int (nI a)]) (rest := []) ⟨hx, hb, hml, hown, hts⟩ (c_X_putScrap l dC dI h0 q0 q1 s.heap.size n k cA cB T G T0 G0 hT hG hn hk a a (by omega) (by omega)) (cwV 2 hts (gV_ (fun w h => List.mem_cons_of_mem _ h) k145 k147 k4 k21 k148) rfl rfl rfl (by decide +kernel) ⟨Nat.le_of_ble_eq_true rfl, Nat.le_of_ble_eq_true rfl⟩) ⟨fun a U g mk q => by obtain ⟨q0, q1, qP, qK, qD⟩ := q; exact ⟨q0, q1, qP, va_K.moved (u := U) (U := U.calling g mk a) (Vm.Alike.refl U.vm) qK, qD⟩, va_recv hKc hPc (ci := 0) (q0 := 0) rfl rfl, fun U hU hW => ⟨rfl, by rw [hU], by rw [hU]; exact hPc, va_K.moved hW.alike hKc, hDc.weaken (fun _ _ _ _ => trivial)⟩⟩ rfl rfl hl.1 rfl (lv_room (Nat.le_of_ble_eq_true rfl)) dX0_insert_26 ⟨Nat.le_of_ble_eq_true rfl, Nat.le_of_ble_eq_true rfl⟩) hS (fun q _ h => hFc q h) hFc (fun r26 u26 t H locs ht hvm w26 hB hz1 hk1 hS => ?_)
      try dsimp only at w26
      obtain ⟨n2, T2, k2, G2⟩ := u26
      obtain ⟨hP1, hK1, hD1⟩ := hB
      rw [ht] at hP1
      obtain ⟨hP, hD⟩ := va_join (wr := []) (w1 := [(h0, .inr (0, [.ref q0, .ref q1, .int (nI n2), .int (nI k2)])), (q0, .inl (cA, 3000, .inl T2)), (q1, .inl (cB, 40, .inl G2))]) hP hD [0, 1, 2] [] rfl rfl (by decide) (by decide) hk1 hFc hP1 hD1
      have hP : va_P (dC, dI) vwCl [(h0, .inr (0, [.ref q0, .ref q1, .int (nI n2), .int (nI k2)])), (q0, .inl (cA, 3000, .inl T2)), (q1, .inl (cB, 40, .inl G2))] H := hP
      have hD : va_D A [(h0, .inr (0, [.ref q0, .ref q1, .int (nI n2), .int (nI k2)])), (q0, .inl (cA, 3000, .inl T2)), (q1, .inl (cB, 40, .inl G2))] := hD
      subst hQ
      exact W.iret (v := r26) hx hb hr (fun t ht hW => ⟨⟨r26, (n2, T2, k2, G2), rfl, (by rw [show sp_insert (nI a) d y n T0 k G0 = sp_put a a G0 k n T0 k G0 from (by unfold sp_insert; (try simp only [nI_clamp lta]); (repeat' split) <;> first | rfl | (exfalso; omega))]; exact w26), by rw [ht]; exact hP, va_K.moved hW.alike hK, hD⟩, hS.F ht⟩) hS.2.2 dX0_insert_29
    · skip
      have h11 := (not_congr (tl_eq (show d.toInt = d.toInt from rfl) (show (0 : Int32).toInt = (0 : Int) from Int32.toInt_zero))).mp h11
      refine lv_aload_n hx hb dX0_insert_14 rfl (lv_at hl 0 rfl) ?_
      refine lv_iload_n hx hb dX0_insert_15 rfl (lv_at hl 1 rfl) ?_
      refine lv_lload_n hx hb dX0_insert_16 rfl (lv_at hl 3 rfl) ?_
      have hPc := hP.sub (ws' := [(h0, .inr (0, [.ref q0, .ref q1, .int (nI n), .int (nI k)])), (q0, .inl (cA, 3000, .inl T)), (q1, .inl (cB, 40, .inl G))]) [0, 1, 2] rfl
      have hDc := hD.sub (ws' := [(h0, .inr (0, [.ref q0, .ref q1, .int (nI n), .int (nI k)])), (q0, .inl (cA, 3000, .inl T)), (q1, .inl (cB, 40, .inl G))]) [0, 1, 2] (by decide) rfl
      have hKc := hK
      have hFc := va_free (wc := [(h0, .inr (0, [.ref q0, .ref q1, .int (nI n), .int (nI k)])), (q0, .inl (cA, 3000, .inl T)), (q1, .inl (cB, 40, .inl G))]) hD hS hA [0, 1, 2] rfl
      refine va_calli (va_runV (As := [.int (nI a), .long y]) (rest := []) ⟨hx, hb, hml, hown, hts⟩ (c_X_putDigits l dC dI h0 q0 q1 s.heap.size n k cA cB T G T0 G0 hT hG hn hk a y (by omega)) (cwV 2 hts (gV_ (fun w h => List.mem_cons_of_mem _ h) k69 k71 k0 k21 k72) rfl rfl rfl (by decide +kernel) ⟨Nat.le_of_ble_eq_true rfl, Nat.le_of_ble_eq_true rfl⟩) ⟨fun a U g mk q => by obtain ⟨q0, q1, qP, qK, qD⟩ := q; exact ⟨q0, q1, qP, va_K.moved (u := U) (U := U.calling g mk a) (Vm.Alike.refl U.vm) qK, qD⟩, va_recv hKc hPc (ci := 0) (q0 := 0) rfl rfl, fun U hU hW => ⟨rfl, by rw [hU], by rw [hU]; exact hPc, va_K.moved hW.alike hKc, hDc.weaken (fun _ _ _ _ => trivial)⟩⟩ rfl rfl hl.1 rfl (lv_room (Nat.le_of_ble_eq_true rfl)) dX0_insert_17 ⟨Nat.le_of_ble_eq_true rfl, Nat.le_of_ble_eq_true rfl⟩) hS (fun q _ h => hFc q h) hFc (fun r17 u17 t H locs ht hvm w17 hB hz1 hk1 hS => ?_)
      try dsimp only at w17
      obtain ⟨n2, T2, k2, G2⟩ := u17
      obtain ⟨hP1, hK1, hD1⟩ := hB
      rw [ht] at hP1
      obtain ⟨hP, hD⟩ := va_join (wr := []) (w1 := [(h0, .inr (0, [.ref q0, .ref q1, .int (nI n2), .int (nI k2)])), (q0, .inl (cA, 3000, .inl T2)), (q1, .inl (cB, 40, .inl G2))]) hP hD [0, 1, 2] [] rfl rfl (by decide) (by decide) hk1 hFc hP1 hD1
      have hP : va_P (dC, dI) vwCl [(h0, .inr (0, [.ref q0, .ref q1, .int (nI n2), .int (nI k2)])), (q0, .inl (cA, 3000, .inl T2)), (q1, .inl (cB, 40, .inl G2))] H := hP
      have hD : va_D A [(h0, .inr (0, [.ref q0, .ref q1, .int (nI n2), .int (nI k2)])), (q0, .inl (cA, 3000, .inl T2)), (q1, .inl (cB, 40, .inl G2))] := hD
      refine lv_goto (tgt := 29) hx hb dX0_insert_20 rfl ?_
      subst hQ
      exact W.iret (v := r17) hx hb hr (fun t ht hW => ⟨⟨r17, (n2, T2, k2, G2), rfl, (by rw [show sp_insert (nI a) d y n T0 k G0 = sp_put a a (dg_w y) (dg_m y) n T0 k G0 from (by unfold sp_insert; (try simp only [nI_clamp lta]); (repeat' split) <;> first | rfl | (exfalso; omega))]; exact w17), by rw [ht]; exact hP, va_K.moved hW.alike hK, hD⟩, hS.F ht⟩) hS.2.2 dX0_insert_29
  · skip
    have h5 := (tl_b0 w2).mp h5
    refine lv_iconst (v := (-1 : Int32)) hx hb dX0_insert_8 (by decide) ?_
    subst hQ
    exact W.iret (v := (-1 : Int32)) hx hb hr (fun t ht hW => ⟨⟨(-1 : Int32), (n, T, k, G), rfl, (by rw [(show sp_insert x d y n T0 k G0 = ((-1 : Int32), (n, T0, k, G0)) from (by unfold sp_insert; (repeat' split) <;> first | rfl | (exfalso; omega)))]; exact ⟨rfl, tE_mk hT hG hn hk⟩), by rw [ht]; exact hP, va_K.moved hW.alike hK, hD⟩, hS.F ht⟩) hS.2.2 dX0_insert_9
set_option maxHeartbeats 4000000 in
set_option maxRecDepth 100000 in
theorem c_X_cut (l : Launch) (dC : Nat → ClassId) (dI : Nat → Nat → Nat) (h0 q0 q1 sz n k : Nat) (cA cB : ClassId) (T G T0 G0 : Nat → Int32) (hT : ∀ j, j < n → T j = T0 j) (hG : ∀ j, j < k → G j = G0 j) (hn : n ≤ 3000) (hk : k ≤ 40) (x y : Int32) : Met l yX0_cut wsX0_cut ({ frames := 2, cells := 0, slots := 0, locals := 44 } : Room) (va_Pc [.ref h0, .int x, .int y] (fun U => U.heap.size = sz ∧ va_P (dC, dI) vwCl [(h0, .inr (0, [.ref q0, .ref q1, .int (nI n), .int (nI k)])), (q0, .inl (cA, 3000, .inl T)), (q1, .inl (cB, 40, .inl G))] U.heap ∧ va_K (dC, dI) vwCl [(cA, .int), (cB, .int)] U ∧ va_D (fun _ => True) [(h0, .inr (0, [.ref q0, .ref q1, .int (nI n), .int (nI k)])), (q0, .inl (cA, 3000, .inl T)), (q1, .inl (cB, 40, .inl G))])) (va_Qi (fun (r : Int32) (u : tS) => r = (sp_cut x y n T0 k G0).1 ∧ tE u (sp_cut x y n T0 k G0).2) (at_X dC dI (va_A [(h0, .inr (0, [.ref q0, .ref q1, .int (nI n), .int (nI k)])), (q0, .inl (cA, 3000, .inl T)), (q1, .inl (cB, 40, .inl G))] sz) h0 q0 q1 cA cB) (va_A [(h0, .inr (0, [.ref q0, .ref q1, .int (nI n), .int (nI k)])), (q0, .inl (cA, 3000, .inl T)), (q1, .inl (cB, 40, .inl G))] sz)) 0 0 (va_A [(h0, .inr (0, [.ref q0, .ref q1, .int (nI n), .int (nI k)])), (q0, .inl (cA, 3000, .inl T)), (q1, .inl (cB, 40, .inl G))] sz) := by
  refine Met.ofW (cc := cX0_cut) (maxL := 3) (ret := (some .int)) (by decide) rfl ?_
  intro p e s m args below meth c s₁ B hml hv
  obtain ⟨rfl, hsz, hP, hK, hD0⟩ := hv
  have hx := B.exec
  have hb := B.bytes
  have hr := B.returns
  have hts := atoms_spec (ws := wsX0_cut) B.pre
  have hown : s.vm.findClass RX0 = some m.cls := findClass_of_methodNamed B.named
  have hlocks := B.notSynchronized
  subst hsz
  have hD := hD0.self (sz := s.heap.size)
  generalize hAe : va_A [(h0, .inr (0, [.ref q0, .ref q1, .int (nI n), .int (nI k)])), (q0, .inl (cA, 3000, .inl T)), (q1, .inl (cB, 40, .inl G))] s.heap.size = A at hD ⊢
  have hA : ∀ q : Nat, s.heap.size ≤ q → A q := fun q h => by rw [← hAe]; exact Or.inr h
  have hS : va_S A s.heap s.heap [] := va_S.rf
  have hP : va_P (dC, dI) vwCl [(h0, .inr (0, [.ref q0, .ref q1, .int (nI n), .int (nI k)])), (q0, .inl (cA, 3000, .inl T)), (q1, .inl (cB, 40, .inl G))] s.heap := hP
  have hinX0 : ∀ w ∈ u_ws RX0 TX0 4, w ∈ wsX0_cut := fun w h => List.mem_cons_of_mem _ (inX0 w h)
  have hl := lv_entry ([.ref h0, .int x, .int y]) (n := 3) (Nat.le_of_ble_eq_true rfl)
  rw [lg_entry_eq]
  generalize (lg_sl ([.ref h0, .int x, .int y]) ++ List.replicate (3 - (lg_sl ([.ref h0, .int x, .int y])).length) Slot.unset).toArray = ls at hl ⊢
  have hl : lv_has ls 3 [(0, .ref h0), (1, .int x), (2, .int y)] := hl
  refine tl_q (fun Q hQ => ?_)
  refine lv_aload_n hx hb dX0_cut_0 rfl (lv_at hl 0 rfl) ?_
  refine lv_iload_n hx hb dX0_cut_1 rfl (lv_at hl 1 rfl) ?_
  refine vp_callSi ((va_runV (As := [.int x]) (rest := []) ⟨hx, hb, hml, hown, hts⟩ (c_X_isPlaceOrEnd l dC dI h0 q0 q1 n k cA cB T G T0 G0 hT hG hn hk x) (cwV 1 hts (gV_ (fun w h => List.mem_cons_of_mem _ h) k158 k160 k6 k21 k161) rfl rfl rfl (by decide +kernel) ⟨Nat.le_of_ble_eq_true rfl, Nat.le_of_ble_eq_true rfl⟩) ⟨fun a U g mk q => by obtain ⟨q0, qP, qK⟩ := q; exact ⟨q0, qP, va_K.moved (u := U) (U := U.calling g mk a) (Vm.Alike.refl U.vm) qK⟩, va_recv hK hP (ci := 0) (q0 := 0) rfl rfl, fun U hU hW => ⟨rfl, by rw [hU]; exact hP, va_K.moved hW.alike hK⟩⟩ rfl rfl hl.1 rfl (lv_room (Nat.le_of_ble_eq_true rfl)) dX0_cut_2 ⟨Nat.le_of_ble_eq_true rfl, Nat.le_of_ble_eq_true rfl⟩).run) (fun r2 w2 => ?_)
  try dsimp only at w2
  refine lv_if_eq (tgt := 13) hx hb dX0_cut_5 rfl (fun h5 => ?_) (fun h5 => ?_)
  · skip
    have h5 := (tl_b0 w2).mp h5
    refine lv_iconst (v := (-1 : Int32)) hx hb dX0_cut_13 (by decide) ?_
    subst hQ
    exact W.iret (v := (-1 : Int32)) hx hb hr (fun t ht hW => ⟨⟨(-1 : Int32), (n, T, k, G), rfl, (by rw [(show sp_cut x y n T0 k G0 = ((-1 : Int32), (n, T0, k, G0)) from (by unfold sp_cut; (repeat' split) <;> first | rfl | (exfalso; omega)))]; exact ⟨rfl, tE_mk hT hG hn hk⟩), by rw [ht]; exact hP, va_K.moved hW.alike hK, hD⟩, hS.F ht⟩) hS.2.2 dX0_cut_14
  · skip
    have h5 := (tl_b1 w2).mp h5
    refine lv_iload_n hx hb dX0_cut_8 rfl (lv_at hl 2 rfl) ?_
    refine lv_iload_n hx hb dX0_cut_9 rfl (lv_at hl 1 rfl) ?_
    refine lv_icmp_ge (tgt := 15) hx hb dX0_cut_10 rfl (fun h10 => ?_) (fun h10 => ?_)
    · skip
      have h10 := (tl_le (show x.toInt = x.toInt from rfl) (show y.toInt = y.toInt from rfl)).mp h10
      obtain ⟨a, lta, rfl⟩ := tl_of (x := x) (by omega)
      have ea : (nI a).toInt = ((a : Nat) : Int) := nI_toInt lta
      obtain ⟨b, ltb, rfl⟩ := tl_of (x := y) (by omega)
      have eb : (nI b).toInt = ((b : Nat) : Int) := nI_toInt ltb
      refine lv_aload_n hx hb dX0_cut_15 rfl (lv_at hl 0 rfl) ?_
      refine lv_iload_n hx hb dX0_cut_16 rfl (lv_at hl 1 rfl) ?_
      refine lv_iload_n hx hb dX0_cut_17 rfl (lv_at hl 2 rfl) ?_
      refine lv_aload_n hx hb dX0_cut_18 rfl (lv_at hl 0 rfl) ?_
      refine va_get (D := (dC, dI)) (ci := 0) (v := .int (nI n)) (C := RX0) (T := TX0) (N := 4) hx hb hts hinX0 hown hK hP 0 rfl rfl 2 (by decide) (hts _ (List.mem_cons_of_mem _ k39)) (fun _ h9 => h9) rfl dX0_cut_19 ?_
      refine va_mmin hx hb (hml.trans hl.1.symm) hown (hts _ (List.mem_cons_of_mem _ k166)) (hts _ (List.mem_cons_of_mem _ k167)) (hts _ (List.mem_cons_of_mem _ k24)) (hts _ (List.mem_cons_of_mem _ k168)) (Nat.le_of_ble_eq_true rfl) (Nat.le_of_ble_eq_true rfl) (Nat.zero_le _) (Nat.zero_le _) dX0_cut_22 ?_
      refine tl_top (y := nI (min b n)) (tl_min (by omega) (by omega)) ?_
      refine lv_iconst (v := nI 0) hx hb dX0_cut_25 (by decide) ?_
      have hPc := hP.sub (ws' := [(h0, .inr (0, [.ref q0, .ref q1, .int (nI n), .int (nI k)])), (q0, .inl (cA, 3000, .inl T)), (q1, .inl (cB, 40, .inl G))]) [0, 1, 2] rfl
      have hDc := hD.sub (ws' := [(h0, .inr (0, [.ref q0, .ref q1, .int (nI n), .int (nI k)])), (q0, .inl (cA, 3000, .inl T)), (q1, .inl (cB, 40, .inl G))]) [0, 1, 2] (by decide) rfl
      have hKc := hK
      have hFc := va_free (wc := [(h0, .inr (0, [.ref q0, .ref q1, .int (nI n), .int (nI k)])), (q0, .inl (cA, 3000, .inl T)), (q1, .inl (cB, 40, .inl G))]) hD hS hA [0, 1, 2] rfl
      refine va_callv (va_runV (As := [.int (nI a), .int (nI (min b n)), .int (nI 0)]) (rest := []) ⟨hx, hb, hml, hown, hts⟩ (c_X_makeGap l dC dI h0 q0 q1 s.heap.size n k cA cB T G T0 G0 hT hG hn hk a (min b n) 0 (by omega) (by omega) (by omega)) (cwV 3 hts (gV_ (fun w h => List.mem_cons_of_mem _ h) k81 k83 k2 k21 k84) rfl rfl rfl (by decide +kernel) ⟨Nat.le_of_ble_eq_true rfl, Nat.le_of_ble_eq_true rfl⟩) ⟨fun a U g mk q => by obtain ⟨q0, q1, qP, qK, qD⟩ := q; exact ⟨q0, q1, qP, va_K.moved (u := U) (U := U.calling g mk a) (Vm.Alike.refl U.vm) qK, qD⟩, va_recv hKc hPc (ci := 0) (q0 := 0) rfl rfl, fun U hU hW => ⟨rfl, by rw [hU], by rw [hU]; exact hPc, va_K.moved hW.alike hKc, hDc.weaken (fun _ _ _ _ => trivial)⟩⟩ rfl rfl hl.1 rfl (lv_room (Nat.le_of_ble_eq_true rfl)) dX0_cut_26 ⟨Nat.le_of_ble_eq_true rfl, Nat.le_of_ble_eq_true rfl⟩) hS (fun q _ h => hFc q h) hFc (fun u26 t H locs ht hvm w26 hB hz1 hk1 hS => ?_)
      try dsimp only at w26
      subst w26
      obtain ⟨hP1, hK1, hD1⟩ := hB
      rw [ht] at hP1
      obtain ⟨hP, hD⟩ := va_join (wr := []) (w1 := [(h0, .inr (0, [.ref q0, .ref q1, .int (nI (n - ((min b n) - a) + 0)), .int (nI k)])), (q0, .inl (cA, 3000, .inl (va_cpy T T (min b n) (a + 0) (n - (min b n))))), (q1, .inl (cB, 40, .inl G))]) hP hD [0, 1, 2] [] rfl rfl (by decide) (by decide) hk1 hFc hP1 hD1
      have hP : va_P (dC, dI) vwCl [(h0, .inr (0, [.ref q0, .ref q1, .int (nI (n - ((min b n) - a) + 0)), .int (nI k)])), (q0, .inl (cA, 3000, .inl (va_cpy T T (min b n) (a + 0) (n - (min b n))))), (q1, .inl (cB, 40, .inl G))] H := hP
      have hD : va_D A [(h0, .inr (0, [.ref q0, .ref q1, .int (nI (n - ((min b n) - a) + 0)), .int (nI k)])), (q0, .inl (cA, 3000, .inl (va_cpy T T (min b n) (a + 0) (n - (min b n))))), (q1, .inl (cB, 40, .inl G))] := hD
      refine lv_aload_n hx hb dX0_cut_29 rfl (lv_at hl 0 rfl) ?_
      refine va_get (D := (dC, dI)) (ci := 0) (v := .int (nI (n - ((min b n) - a) + 0))) (C := RX0) (T := TX0) (N := 4) hx hb hts hinX0 hown hK hP 0 rfl rfl 2 (by decide) (hts _ (List.mem_cons_of_mem _ k39)) (fun _ h9 => h9) rfl dX0_cut_30 ?_
      subst hQ
      exact W.iret (v := nI (n - ((min b n) - a) + 0)) hx hb hr (fun t ht hW => ⟨⟨nI (n - ((min b n) - a) + 0), (n - ((min b n) - a) + 0, va_cpy T T (min b n) (a + 0) (n - (min b n)), k, G), rfl, (by rw [show sp_cut (nI a) (nI b) n T0 k G0 = sp_put a (min b n) G0 0 n T0 k G0 from (by unfold sp_cut; simp only [nI_clamp lta, nI_clamp ltb]; rw [if_pos (by omega)])]; unfold sp_put; rw [if_pos (by omega)]; exact ⟨rfl, tE_mk (pu_cut hT (by omega) (by omega)) hG (by omega) hk⟩), by rw [ht]; exact hP, va_K.moved hW.alike hK, hD⟩, hS.F ht⟩) hS.2.2 dX0_cut_33
    · skip
      have h10 := (not_congr (tl_le (show x.toInt = x.toInt from rfl) (show y.toInt = y.toInt from rfl))).mp h10
      refine lv_iconst (v := (-1 : Int32)) hx hb dX0_cut_13 (by decide) ?_
      subst hQ
      exact W.iret (v := (-1 : Int32)) hx hb hr (fun t ht hW => ⟨⟨(-1 : Int32), (n, T, k, G), rfl, (by rw [(show sp_cut x y n T0 k G0 = ((-1 : Int32), (n, T0, k, G0)) from (by unfold sp_cut; (repeat' split) <;> first | rfl | (exfalso; omega)))]; exact ⟨rfl, tE_mk hT hG hn hk⟩), by rw [ht]; exact hP, va_K.moved hW.alike hK, hD⟩, hS.F ht⟩) hS.2.2 dX0_cut_14
set_option maxHeartbeats 4000000 in
set_option maxRecDepth 100000 in
theorem c_X_swap (l : Launch) (dC : Nat → ClassId) (dI : Nat → Nat → Nat) (h0 q0 q1 sz n k : Nat) (cA cB : ClassId) (T G T0 G0 : Nat → Int32) (hT : ∀ j, j < n → T j = T0 j) (hG : ∀ j, j < k → G j = G0 j) (hn : n ≤ 3000) (hk : k ≤ 40) (x y : Int32) : Met l yX0_swap wsX0_swap ({ frames := 3, cells := 0, slots := 0, locals := 66 } : Room) (va_Pc [.ref h0, .int x, .int y] (fun U => U.heap.size = sz ∧ va_P (dC, dI) vwCl [(h0, .inr (0, [.ref q0, .ref q1, .int (nI n), .int (nI k)])), (q0, .inl (cA, 3000, .inl T)), (q1, .inl (cB, 40, .inl G))] U.heap ∧ va_K (dC, dI) vwCl [(cA, .int), (cB, .int)] U ∧ va_D (fun _ => True) [(h0, .inr (0, [.ref q0, .ref q1, .int (nI n), .int (nI k)])), (q0, .inl (cA, 3000, .inl T)), (q1, .inl (cB, 40, .inl G))])) (va_Qi (fun (r : Int32) (u : tS) => r = (sp_swap x y n T0 k G0).1 ∧ tE u (sp_swap x y n T0 k G0).2) (at_X dC dI (va_A [(h0, .inr (0, [.ref q0, .ref q1, .int (nI n), .int (nI k)])), (q0, .inl (cA, 3000, .inl T)), (q1, .inl (cB, 40, .inl G))] sz) h0 q0 q1 cA cB) (va_A [(h0, .inr (0, [.ref q0, .ref q1, .int (nI n), .int (nI k)])), (q0, .inl (cA, 3000, .inl T)), (q1, .inl (cB, 40, .inl G))] sz)) 0 0 (va_A [(h0, .inr (0, [.ref q0, .ref q1, .int (nI n), .int (nI k)])), (q0, .inl (cA, 3000, .inl T)), (q1, .inl (cB, 40, .inl G))] sz) := by
  refine Met.ofW (cc := cX0_swap) (maxL := 3) (ret := (some .int)) (by decide) rfl ?_
  intro p e s m args below meth c s₁ B hml hv
  obtain ⟨rfl, hsz, hP, hK, hD0⟩ := hv
  have hx := B.exec
  have hb := B.bytes
  have hr := B.returns
  have hts := atoms_spec (ws := wsX0_swap) B.pre
  have hown : s.vm.findClass RX0 = some m.cls := findClass_of_methodNamed B.named
  have hlocks := B.notSynchronized
  subst hsz
  have hD := hD0.self (sz := s.heap.size)
  generalize hAe : va_A [(h0, .inr (0, [.ref q0, .ref q1, .int (nI n), .int (nI k)])), (q0, .inl (cA, 3000, .inl T)), (q1, .inl (cB, 40, .inl G))] s.heap.size = A at hD ⊢
  have hA : ∀ q : Nat, s.heap.size ≤ q → A q := fun q h => by rw [← hAe]; exact Or.inr h
  have hS : va_S A s.heap s.heap [] := va_S.rf
  have hP : va_P (dC, dI) vwCl [(h0, .inr (0, [.ref q0, .ref q1, .int (nI n), .int (nI k)])), (q0, .inl (cA, 3000, .inl T)), (q1, .inl (cB, 40, .inl G))] s.heap := hP
  have hinX0 : ∀ w ∈ u_ws RX0 TX0 4, w ∈ wsX0_swap := fun w h => List.mem_cons_of_mem _ (inX0 w h)
  have hl := lv_entry ([.ref h0, .int x, .int y]) (n := 3) (Nat.le_of_ble_eq_true rfl)
  rw [lg_entry_eq]
  generalize (lg_sl ([.ref h0, .int x, .int y]) ++ List.replicate (3 - (lg_sl ([.ref h0, .int x, .int y])).length) Slot.unset).toArray = ls at hl ⊢
  have hl : lv_has ls 3 [(0, .ref h0), (1, .int x), (2, .int y)] := hl
  refine tl_q (fun Q hQ => ?_)
  refine lv_aload_n hx hb dX0_swap_0 rfl (lv_at hl 0 rfl) ?_
  refine lv_iload_n hx hb dX0_swap_1 rfl (lv_at hl 1 rfl) ?_
  refine vp_callSi ((va_runV (As := [.int x]) (rest := []) ⟨hx, hb, hml, hown, hts⟩ (c_X_isPlaceOrEnd l dC dI h0 q0 q1 n k cA cB T G T0 G0 hT hG hn hk x) (cwV 1 hts (gV_ (fun w h => List.mem_cons_of_mem _ h) k158 k160 k6 k21 k161) rfl rfl rfl (by decide +kernel) ⟨Nat.le_of_ble_eq_true rfl, Nat.le_of_ble_eq_true rfl⟩) ⟨fun a U g mk q => by obtain ⟨q0, qP, qK⟩ := q; exact ⟨q0, qP, va_K.moved (u := U) (U := U.calling g mk a) (Vm.Alike.refl U.vm) qK⟩, va_recv hK hP (ci := 0) (q0 := 0) rfl rfl, fun U hU hW => ⟨rfl, by rw [hU]; exact hP, va_K.moved hW.alike hK⟩⟩ rfl rfl hl.1 rfl (lv_room (Nat.le_of_ble_eq_true rfl)) dX0_swap_2 ⟨Nat.le_of_ble_eq_true rfl, Nat.le_of_ble_eq_true rfl⟩).run) (fun r2 w2 => ?_)
  try dsimp only at w2
  refine lv_if_eq (tgt := 13) hx hb dX0_swap_5 rfl (fun h5 => ?_) (fun h5 => ?_)
  · skip
    have h5 := (tl_b0 w2).mp h5
    refine lv_iconst (v := (-1 : Int32)) hx hb dX0_swap_13 (by decide) ?_
    subst hQ
    exact W.iret (v := (-1 : Int32)) hx hb hr (fun t ht hW => ⟨⟨(-1 : Int32), (n, T, k, G), rfl, (by rw [(show sp_swap x y n T0 k G0 = ((-1 : Int32), (n, T0, k, G0)) from (by unfold sp_swap; (repeat' split) <;> first | rfl | (exfalso; omega)))]; exact ⟨rfl, tE_mk hT hG hn hk⟩), by rw [ht]; exact hP, va_K.moved hW.alike hK, hD⟩, hS.F ht⟩) hS.2.2 dX0_swap_14
  · skip
    have h5 := (tl_b1 w2).mp h5
    refine lv_iload_n hx hb dX0_swap_8 rfl (lv_at hl 2 rfl) ?_
    refine lv_iload_n hx hb dX0_swap_9 rfl (lv_at hl 1 rfl) ?_
    refine lv_icmp_ge (tgt := 15) hx hb dX0_swap_10 rfl (fun h10 => ?_) (fun h10 => ?_)
    · skip
      have h10 := (tl_le (show x.toInt = x.toInt from rfl) (show y.toInt = y.toInt from rfl)).mp h10
      obtain ⟨a, lta, rfl⟩ := tl_of (x := x) (by omega)
      have ea : (nI a).toInt = ((a : Nat) : Int) := nI_toInt lta
      obtain ⟨b, ltb, rfl⟩ := tl_of (x := y) (by omega)
      have eb : (nI b).toInt = ((b : Nat) : Int) := nI_toInt ltb
      refine lv_aload_n hx hb dX0_swap_15 rfl (lv_at hl 0 rfl) ?_
      refine lv_iload_n hx hb dX0_swap_16 rfl (lv_at hl 1 rfl) ?_
      refine lv_iload_n hx hb dX0_swap_17 rfl (lv_at hl 2 rfl) ?_
      refine lv_aload_n hx hb dX0_swap_18 rfl (lv_at hl 0 rfl) ?_
      refine va_get (D := (dC, dI)) (ci := 0) (v := .int (nI n)) (C := RX0) (T := TX0) (N := 4) hx hb hts hinX0 hown hK hP 0 rfl rfl 2 (by decide) (hts _ (List.mem_cons_of_mem _ k39)) (fun _ h9 => h9) rfl dX0_swap_19 ?_
      refine va_mmin hx hb (hml.trans hl.1.symm) hown (hts _ (List.mem_cons_of_mem _ k166)) (hts _ (List.mem_cons_of_mem _ k167)) (hts _ (List.mem_cons_of_mem _ k24)) (hts _ (List.mem_cons_of_mem _ k168)) (Nat.le_of_ble_eq_true rfl) (Nat.le_of_ble_eq_true rfl) (Nat.zero_le _) (Nat.zero_le _) dX0_swap_22 ?_
      refine tl_top (y := nI (min b n)) (tl_min (by omega) (by omega)) ?_
      have hPc := hP.sub (ws' := [(h0, .inr (0, [.ref q0, .ref q1, .int (nI n), .int (nI k)])), (q0, .inl (cA, 3000, .inl T)), (q1, .inl (cB, 40, .inl G))]) [0, 1, 2] rfl
      have hDc := hD.sub (ws' := [(h0, .inr (0, [.ref q0, .ref q1, .int (nI n), .int (nI k)])), (q0, .inl (cA, 3000, .inl T)), (q1, .inl (cB, 40, .inl G))]) [0, 1, 2] (by decide) rfl
      have hKc := hK
      have hFc := va_free (wc := [(h0, .inr (0, [.ref q0, .ref q1, .int (nI n), .int (nI k)])), (q0, .inl (cA, 3000, .inl T)), (q1, .inl (cB, 40, .inl G))]) hD hS hA [0, 1, 2] rfl
      refine va_calli (va_runV (As := [.int (nI a), .int (nI (min b n))]) (rest := []) ⟨hx, hb, hml, hown, hts⟩ (c_X_putScrap l dC dI h0 q0 q1 s.heap.size n k cA cB T G T0 G0 hT hG hn hk a (min b n) (by omega) (by omega)) (cwV 2 hts (gV_ (fun w h => List.mem_cons_of_mem _ h) k145 k147 k4 k21 k148) rfl rfl rfl (by decide +kernel) ⟨Nat.le_of_ble_eq_true rfl, Nat.le_of_ble_eq_true rfl⟩) ⟨fun a U g mk q => by obtain ⟨q0, q1, qP, qK, qD⟩ := q; exact ⟨q0, q1, qP, va_K.moved (u := U) (U := U.calling g mk a) (Vm.Alike.refl U.vm) qK, qD⟩, va_recv hKc hPc (ci := 0) (q0 := 0) rfl rfl, fun U hU hW => ⟨rfl, by rw [hU], by rw [hU]; exact hPc, va_K.moved hW.alike hKc, hDc.weaken (fun _ _ _ _ => trivial)⟩⟩ rfl rfl hl.1 rfl (lv_room (Nat.le_of_ble_eq_true rfl)) dX0_swap_25 ⟨Nat.le_of_ble_eq_true rfl, Nat.le_of_ble_eq_true rfl⟩) hS (fun q _ h => hFc q h) hFc (fun r25 u25 t H locs ht hvm w25 hB hz1 hk1 hS => ?_)
      try dsimp only at w25
      obtain ⟨n2, T2, k2, G2⟩ := u25
      obtain ⟨hP1, hK1, hD1⟩ := hB
      rw [ht] at hP1
      obtain ⟨hP, hD⟩ := va_join (wr := []) (w1 := [(h0, .inr (0, [.ref q0, .ref q1, .int (nI n2), .int (nI k2)])), (q0, .inl (cA, 3000, .inl T2)), (q1, .inl (cB, 40, .inl G2))]) hP hD [0, 1, 2] [] rfl rfl (by decide) (by decide) hk1 hFc hP1 hD1
      have hP : va_P (dC, dI) vwCl [(h0, .inr (0, [.ref q0, .ref q1, .int (nI n2), .int (nI k2)])), (q0, .inl (cA, 3000, .inl T2)), (q1, .inl (cB, 40, .inl G2))] H := hP
      have hD : va_D A [(h0, .inr (0, [.ref q0, .ref q1, .int (nI n2), .int (nI k2)])), (q0, .inl (cA, 3000, .inl T2)), (q1, .inl (cB, 40, .inl G2))] := hD
      subst hQ
      exact W.iret (v := r25) hx hb hr (fun t ht hW => ⟨⟨r25, (n2, T2, k2, G2), rfl, (by rw [show sp_swap (nI a) (nI b) n T0 k G0 = sp_put a (min b n) G0 k n T0 k G0 from (by unfold sp_swap; (try simp only [nI_clamp lta]); (try simp only [nI_clamp ltb]); (repeat' split) <;> first | rfl | (exfalso; omega))]; exact w25), by rw [ht]; exact hP, va_K.moved hW.alike hK, hD⟩, hS.F ht⟩) hS.2.2 dX0_swap_28
    · skip
      have h10 := (not_congr (tl_le (show x.toInt = x.toInt from rfl) (show y.toInt = y.toInt from rfl))).mp h10
      refine lv_iconst (v := (-1 : Int32)) hx hb dX0_swap_13 (by decide) ?_
      subst hQ
      exact W.iret (v := (-1 : Int32)) hx hb hr (fun t ht hW => ⟨⟨(-1 : Int32), (n, T, k, G), rfl, (by rw [(show sp_swap x y n T0 k G0 = ((-1 : Int32), (n, T0, k, G0)) from (by unfold sp_swap; (repeat' split) <;> first | rfl | (exfalso; omega)))]; exact ⟨rfl, tE_mk hT hG hn hk⟩), by rw [ht]; exact hP, va_K.moved hW.alike hK, hD⟩, hS.F ht⟩) hS.2.2 dX0_swap_14
end
section
set_option maxHeartbeats 4000000 in
set_option maxRecDepth 100000 in
theorem c_X_take (l : Launch) (dC : Nat → ClassId) (dI : Nat → Nat → Nat) (h0 q0 q1 sz n k : Nat) (cA cB : ClassId) (T G T0 G0 : Nat → Int32) (hT : ∀ j, j < n → T j = T0 j) (hG : ∀ j, j < k → G j = G0 j) (hn : n ≤ 3000) (hk : k ≤ 40) (x : Int32) : Met l yX0_take wsX0_take ({ frames := 2, cells := 0, slots := 0, locals := 44 } : Room) (va_Pc [.ref h0, .int x] (fun U => U.heap.size = sz ∧ va_P (dC, dI) vwCl [(h0, .inr (0, [.ref q0, .ref q1, .int (nI n), .int (nI k)])), (q0, .inl (cA, 3000, .inl T)), (q1, .inl (cB, 40, .inl G))] U.heap ∧ va_K (dC, dI) vwCl [(cA, .int), (cB, .int)] U ∧ va_D (fun _ => True) [(h0, .inr (0, [.ref q0, .ref q1, .int (nI n), .int (nI k)])), (q0, .inl (cA, 3000, .inl T)), (q1, .inl (cB, 40, .inl G))])) (va_Qi (fun (r : Int32) (u : tS) => r = (sp_take x n T0 k G0).1 ∧ tE u (sp_take x n T0 k G0).2) (at_X dC dI (va_A [(h0, .inr (0, [.ref q0, .ref q1, .int (nI n), .int (nI k)])), (q0, .inl (cA, 3000, .inl T)), (q1, .inl (cB, 40, .inl G))] sz) h0 q0 q1 cA cB) (va_A [(h0, .inr (0, [.ref q0, .ref q1, .int (nI n), .int (nI k)])), (q0, .inl (cA, 3000, .inl T)), (q1, .inl (cB, 40, .inl G))] sz)) 0 0 (va_A [(h0, .inr (0, [.ref q0, .ref q1, .int (nI n), .int (nI k)])), (q0, .inl (cA, 3000, .inl T)), (q1, .inl (cB, 40, .inl G))] sz) := by
  refine Met.ofW (cc := cX0_take) (maxL := 3) (ret := (some .int)) (by decide) rfl ?_
  intro p e s m args below meth c s₁ B hml hv
  obtain ⟨rfl, hsz, hP, hK, hD0⟩ := hv
  have hx := B.exec
  have hb := B.bytes
  have hr := B.returns
  have hts := atoms_spec (ws := wsX0_take) B.pre
  have hown : s.vm.findClass RX0 = some m.cls := findClass_of_methodNamed B.named
  have hlocks := B.notSynchronized
  subst hsz
  have hD := hD0.self (sz := s.heap.size)
  generalize hAe : va_A [(h0, .inr (0, [.ref q0, .ref q1, .int (nI n), .int (nI k)])), (q0, .inl (cA, 3000, .inl T)), (q1, .inl (cB, 40, .inl G))] s.heap.size = A at hD ⊢
  have hA : ∀ q : Nat, s.heap.size ≤ q → A q := fun q h => by rw [← hAe]; exact Or.inr h
  have hS : va_S A s.heap s.heap [] := va_S.rf
  have hP : va_P (dC, dI) vwCl [(h0, .inr (0, [.ref q0, .ref q1, .int (nI n), .int (nI k)])), (q0, .inl (cA, 3000, .inl T)), (q1, .inl (cB, 40, .inl G))] s.heap := hP
  have hinX0 : ∀ w ∈ u_ws RX0 TX0 4, w ∈ wsX0_take := fun w h => List.mem_cons_of_mem _ (inX0 w h)
  have hl := lv_entry ([.ref h0, .int x]) (n := 3) (Nat.le_of_ble_eq_true rfl)
  rw [lg_entry_eq]
  generalize (lg_sl ([.ref h0, .int x]) ++ List.replicate (3 - (lg_sl ([.ref h0, .int x])).length) Slot.unset).toArray = ls at hl ⊢
  have hl : lv_has ls 3 [(0, .ref h0), (1, .int x)] := hl
  refine tl_q (fun Q hQ => ?_)
  refine lv_aload_n hx hb dX0_take_0 rfl (lv_at hl 0 rfl) ?_
  refine lv_iload_n hx hb dX0_take_1 rfl (lv_at hl 1 rfl) ?_
  refine vp_callSi ((va_runV (As := [.int x]) (rest := []) ⟨hx, hb, hml, hown, hts⟩ (c_X_isPlace l dC dI h0 q0 q1 n k cA cB T G T0 G0 hT hG hn hk x) (cwV 1 hts (gV_ (fun w h => List.mem_cons_of_mem _ h) k177 k179 k7 k21 k180) rfl rfl rfl (by decide +kernel) ⟨Nat.le_of_ble_eq_true rfl, Nat.le_of_ble_eq_true rfl⟩) ⟨fun a U g mk q => by obtain ⟨q0, qP, qK⟩ := q; exact ⟨q0, qP, va_K.moved (u := U) (U := U.calling g mk a) (Vm.Alike.refl U.vm) qK⟩, va_recv hK hP (ci := 0) (q0 := 0) rfl rfl, fun U hU hW => ⟨rfl, by rw [hU]; exact hP, va_K.moved hW.alike hK⟩⟩ rfl rfl hl.1 rfl (lv_room (Nat.le_of_ble_eq_true rfl)) dX0_take_2 ⟨Nat.le_of_ble_eq_true rfl, Nat.le_of_ble_eq_true rfl⟩).run) (fun r2 w2 => ?_)
  try dsimp only at w2
  refine lv_if_ne (tgt := 10) hx hb dX0_take_5 rfl (fun h5 => ?_) (fun h5 => ?_)
  · skip
    have h5 := (tl_b1 w2).mp h5
    obtain ⟨a, lta, rfl⟩ := tl_of (x := x) (by omega)
    have ea : (nI a).toInt = ((a : Nat) : Int) := nI_toInt lta
    refine lv_aload_n hx hb dX0_take_10 rfl (lv_at hl 0 rfl) ?_
    refine va_get (D := (dC, dI)) (ci := 0) (v := .ref q0) (C := RX0) (T := TX0) (N := 4) hx hb hts hinX0 hown hK hP 0 rfl rfl 0 (by decide) (hts _ (List.mem_cons_of_mem _ k37)) (fun _ h9 => h9) rfl dX0_take_11 ?_
    refine lv_iload_n hx hb dX0_take_14 rfl (lv_at hl 1 rfl) ?_
    refine tl_iald (v := T0 a) hx hb hK hP 1 0 rfl rfl (by omega) (by decide) (hT _ (by omega)) dX0_take_15 ?_
    refine lv_istore_n (lv' := [(2, .int (T0 a)), (0, .ref h0), (1, .int (nI a))]) hx hb dX0_take_16 rfl hl (by decide) rfl (fun ls hl => ?_)
    refine lv_aload_n hx hb dX0_take_17 rfl (lv_at hl 1 rfl) ?_
    refine lv_iload_n hx hb dX0_take_18 rfl (lv_at hl 2 rfl) ?_
    refine lv_iload_n hx hb dX0_take_19 rfl (lv_at hl 2 rfl) ?_
    refine lv_iconst (v := nI 1) hx hb dX0_take_20 (by decide) ?_
    refine lv_iadd hx hb dX0_take_21 ?_
    refine tl_top (nI_add _ _) ?_
    refine lv_iconst (v := nI 0) hx hb dX0_take_22 (by decide) ?_
    have hPc := hP.sub (ws' := [(h0, .inr (0, [.ref q0, .ref q1, .int (nI n), .int (nI k)])), (q0, .inl (cA, 3000, .inl T)), (q1, .inl (cB, 40, .inl G))]) [0, 1, 2] rfl
    have hDc := hD.sub (ws' := [(h0, .inr (0, [.ref q0, .ref q1, .int (nI n), .int (nI k)])), (q0, .inl (cA, 3000, .inl T)), (q1, .inl (cB, 40, .inl G))]) [0, 1, 2] (by decide) rfl
    have hKc := hK
    have hFc := va_free (wc := [(h0, .inr (0, [.ref q0, .ref q1, .int (nI n), .int (nI k)])), (q0, .inl (cA, 3000, .inl T)), (q1, .inl (cB, 40, .inl G))]) hD hS hA [0, 1, 2] rfl
    refine va_callv (va_runV (As := [.int (nI a), .int (nI (a + 1)), .int (nI 0)]) (rest := []) ⟨hx, hb, hml, hown, hts⟩ (c_X_makeGap l dC dI h0 q0 q1 s.heap.size n k cA cB T G T0 G0 hT hG hn hk a (a + 1) 0 (by omega) (by omega) (by omega)) (cwV 3 hts (gV_ (fun w h => List.mem_cons_of_mem _ h) k81 k83 k2 k21 k84) rfl rfl rfl (by decide +kernel) ⟨Nat.le_of_ble_eq_true rfl, Nat.le_of_ble_eq_true rfl⟩) ⟨fun a U g mk q => by obtain ⟨q0, q1, qP, qK, qD⟩ := q; exact ⟨q0, q1, qP, va_K.moved (u := U) (U := U.calling g mk a) (Vm.Alike.refl U.vm) qK, qD⟩, va_recv hKc hPc (ci := 0) (q0 := 0) rfl rfl, fun U hU hW => ⟨rfl, by rw [hU], by rw [hU]; exact hPc, va_K.moved hW.alike hKc, hDc.weaken (fun _ _ _ _ => trivial)⟩⟩ rfl rfl hl.1 rfl (lv_room (Nat.le_of_ble_eq_true rfl)) dX0_take_23 ⟨Nat.le_of_ble_eq_true rfl, Nat.le_of_ble_eq_true rfl⟩) hS (fun q _ h => hFc q h) hFc (fun u23 t H locs ht hvm w23 hB hz1 hk1 hS => ?_)
    try dsimp only at w23
    subst w23
    obtain ⟨hP1, hK1, hD1⟩ := hB
    rw [ht] at hP1
    obtain ⟨hP, hD⟩ := va_join (wr := []) (w1 := [(h0, .inr (0, [.ref q0, .ref q1, .int (nI (n - ((a + 1) - a) + 0)), .int (nI k)])), (q0, .inl (cA, 3000, .inl (va_cpy T T (a + 1) (a + 0) (n - (a + 1))))), (q1, .inl (cB, 40, .inl G))]) hP hD [0, 1, 2] [] rfl rfl (by decide) (by decide) hk1 hFc hP1 hD1
    have hP : va_P (dC, dI) vwCl [(h0, .inr (0, [.ref q0, .ref q1, .int (nI (n - ((a + 1) - a) + 0)), .int (nI k)])), (q0, .inl (cA, 3000, .inl (va_cpy T T (a + 1) (a + 0) (n - (a + 1))))), (q1, .inl (cB, 40, .inl G))] H := hP
    have hD : va_D A [(h0, .inr (0, [.ref q0, .ref q1, .int (nI (n - ((a + 1) - a) + 0)), .int (nI k)])), (q0, .inl (cA, 3000, .inl (va_cpy T T (a + 1) (a + 0) (n - (a + 1))))), (q1, .inl (cB, 40, .inl G))] := hD
    refine lv_iload_n hx hb dX0_take_26 rfl (lv_at hl 0 rfl) ?_
    subst hQ
    exact W.iret (v := T0 a) hx hb hr (fun t ht hW => ⟨⟨T0 a, (n - ((a + 1) - a) + 0, va_cpy T T (a + 1) (a + 0) (n - (a + 1)), k, G), rfl, (by rw [(show sp_take (nI a) n T0 k G0 = (T0 a, (n - 1, tl_rep T0 a (a + 1) G0 0, k, G0)) from (by unfold sp_take; (try simp only [nI_clamp lta]); (repeat' split) <;> first | rfl | (exfalso; omega)))]; exact ⟨rfl, pu_take hT hG hn hk (by omega)⟩), by rw [ht]; exact hP, va_K.moved hW.alike hK, hD⟩, hS.F ht⟩) hS.2.2 dX0_take_27
  · skip
    have h5 := (tl_b0 w2).mp h5
    refine lv_iconst (v := (-1 : Int32)) hx hb dX0_take_8 (by decide) ?_
    subst hQ
    exact W.iret (v := (-1 : Int32)) hx hb hr (fun t ht hW => ⟨⟨(-1 : Int32), (n, T, k, G), rfl, (by rw [(show sp_take x n T0 k G0 = ((-1 : Int32), (n, T0, k, G0)) from (by unfold sp_take; (repeat' split) <;> first | rfl | (exfalso; omega)))]; exact ⟨rfl, tE_mk hT hG hn hk⟩), by rw [ht]; exact hP, va_K.moved hW.alike hK, hD⟩, hS.F ht⟩) hS.2.2 dX0_take_9
set_option maxHeartbeats 4000000 in
set_option maxRecDepth 100000 in
theorem c_X_set (l : Launch) (dC : Nat → ClassId) (dI : Nat → Nat → Nat) (h0 q0 q1 sz n k : Nat) (cA cB : ClassId) (T G T0 G0 : Nat → Int32) (hT : ∀ j, j < n → T j = T0 j) (hG : ∀ j, j < k → G j = G0 j) (hn : n ≤ 3000) (hk : k ≤ 40) (x y : Int32) : Met l yX0_set wsX0_set ({ frames := 1, cells := 0, slots := 0, locals := 21 } : Room) (va_Pc [.ref h0, .int x, .int y] (fun U => U.heap.size = sz ∧ va_P (dC, dI) vwCl [(h0, .inr (0, [.ref q0, .ref q1, .int (nI n), .int (nI k)])), (q0, .inl (cA, 3000, .inl T)), (q1, .inl (cB, 40, .inl G))] U.heap ∧ va_K (dC, dI) vwCl [(cA, .int), (cB, .int)] U ∧ va_D (fun _ => True) [(h0, .inr (0, [.ref q0, .ref q1, .int (nI n), .int (nI k)])), (q0, .inl (cA, 3000, .inl T)), (q1, .inl (cB, 40, .inl G))])) (va_Qi (fun (r : Int32) (u : tS) => r = (sp_set x y n T0 k G0).1 ∧ tE u (sp_set x y n T0 k G0).2) (at_X dC dI (va_A [(h0, .inr (0, [.ref q0, .ref q1, .int (nI n), .int (nI k)])), (q0, .inl (cA, 3000, .inl T)), (q1, .inl (cB, 40, .inl G))] sz) h0 q0 q1 cA cB) (va_A [(h0, .inr (0, [.ref q0, .ref q1, .int (nI n), .int (nI k)])), (q0, .inl (cA, 3000, .inl T)), (q1, .inl (cB, 40, .inl G))] sz)) 0 0 (va_A [(h0, .inr (0, [.ref q0, .ref q1, .int (nI n), .int (nI k)])), (q0, .inl (cA, 3000, .inl T)), (q1, .inl (cB, 40, .inl G))] sz) := by
  refine Met.ofW (cc := cX0_set) (maxL := 4) (ret := (some .int)) (by decide) rfl ?_
  intro p e s m args below meth c s₁ B hml hv
  obtain ⟨rfl, hsz, hP, hK, hD0⟩ := hv
  have hx := B.exec
  have hb := B.bytes
  have hr := B.returns
  have hts := atoms_spec (ws := wsX0_set) B.pre
  have hown : s.vm.findClass RX0 = some m.cls := findClass_of_methodNamed B.named
  have hlocks := B.notSynchronized
  subst hsz
  have hD := hD0.self (sz := s.heap.size)
  generalize hAe : va_A [(h0, .inr (0, [.ref q0, .ref q1, .int (nI n), .int (nI k)])), (q0, .inl (cA, 3000, .inl T)), (q1, .inl (cB, 40, .inl G))] s.heap.size = A at hD ⊢
  have hA : ∀ q : Nat, s.heap.size ≤ q → A q := fun q h => by rw [← hAe]; exact Or.inr h
  have hS : va_S A s.heap s.heap [] := va_S.rf
  have hP : va_P (dC, dI) vwCl [(h0, .inr (0, [.ref q0, .ref q1, .int (nI n), .int (nI k)])), (q0, .inl (cA, 3000, .inl T)), (q1, .inl (cB, 40, .inl G))] s.heap := hP
  have hinX0 : ∀ w ∈ u_ws RX0 TX0 4, w ∈ wsX0_set := fun w h => List.mem_cons_of_mem _ (inX0 w h)
  have hl := lv_entry ([.ref h0, .int x, .int y]) (n := 4) (Nat.le_of_ble_eq_true rfl)
  rw [lg_entry_eq]
  generalize (lg_sl ([.ref h0, .int x, .int y]) ++ List.replicate (4 - (lg_sl ([.ref h0, .int x, .int y])).length) Slot.unset).toArray = ls at hl ⊢
  have hl : lv_has ls 4 [(0, .ref h0), (1, .int x), (2, .int y)] := hl
  refine tl_q (fun Q hQ => ?_)
  refine lv_aload_n hx hb dX0_set_0 rfl (lv_at hl 0 rfl) ?_
  refine lv_iload_n hx hb dX0_set_1 rfl (lv_at hl 1 rfl) ?_
  refine vp_callSi ((va_runV (As := [.int x]) (rest := []) ⟨hx, hb, hml, hown, hts⟩ (c_X_isPlace l dC dI h0 q0 q1 n k cA cB T G T0 G0 hT hG hn hk x) (cwV 1 hts (gV_ (fun w h => List.mem_cons_of_mem _ h) k177 k179 k7 k21 k180) rfl rfl rfl (by decide +kernel) ⟨Nat.le_of_ble_eq_true rfl, Nat.le_of_ble_eq_true rfl⟩) ⟨fun a U g mk q => by obtain ⟨q0, qP, qK⟩ := q; exact ⟨q0, qP, va_K.moved (u := U) (U := U.calling g mk a) (Vm.Alike.refl U.vm) qK⟩, va_recv hK hP (ci := 0) (q0 := 0) rfl rfl, fun U hU hW => ⟨rfl, by rw [hU]; exact hP, va_K.moved hW.alike hK⟩⟩ rfl rfl hl.1 rfl (lv_room (Nat.le_of_ble_eq_true rfl)) dX0_set_2 ⟨Nat.le_of_ble_eq_true rfl, Nat.le_of_ble_eq_true rfl⟩).run) (fun r2 w2 => ?_)
  try dsimp only at w2
  refine lv_if_eq (tgt := 16) hx hb dX0_set_5 rfl (fun h5 => ?_) (fun h5 => ?_)
  · skip
    have h5 := (tl_b0 w2).mp h5
    refine lv_iconst (v := (-1 : Int32)) hx hb dX0_set_16 (by decide) ?_
    subst hQ
    exact W.iret (v := (-1 : Int32)) hx hb hr (fun t ht hW => ⟨⟨(-1 : Int32), (n, T, k, G), rfl, (by rw [(show sp_set x y n T0 k G0 = ((-1 : Int32), (n, T0, k, G0)) from (by unfold sp_set; (repeat' split) <;> first | rfl | (exfalso; omega)))]; exact ⟨rfl, tE_mk hT hG hn hk⟩), by rw [ht]; exact hP, va_K.moved hW.alike hK, hD⟩, hS.F ht⟩) hS.2.2 dX0_set_17
  · skip
    have h5 := (tl_b1 w2).mp h5
    refine lv_iload_n hx hb dX0_set_8 rfl (lv_at hl 2 rfl) ?_
    refine lv_i2l hx hb dX0_set_9 rfl ?_
    have ea10_0 : y.toInt64.toInt = y.toInt := ((Int32.toInt_toInt64 _).trans rfl)
    refine vp_callSi ((va_runS (As := [.long y.toInt64]) (rest := []) ⟨hx, hb, hml, hown, hts⟩ (c_X_isSign l y.toInt64) (va_cwS 1 hts (gS_ (fun w h => List.mem_cons_of_mem _ h) k55 k56 k21 k57) rfl rfl rfl (by decide +kernel) ⟨Nat.le_of_ble_eq_true rfl, Nat.le_of_ble_eq_true rfl⟩) ⟨fun a U g mk q => q, fun U hU hW => ⟨rfl, trivial⟩⟩ rfl rfl hl.1 rfl (lv_room (Nat.le_of_ble_eq_true rfl)) dX0_set_10 ⟨Nat.le_of_ble_eq_true rfl, Nat.le_of_ble_eq_true rfl⟩).run) (fun r10 w10 => ?_)
    try dsimp only at w10
    refine lv_if_ne (tgt := 18) hx hb dX0_set_13 rfl (fun h13 => ?_) (fun h13 => ?_)
    · skip
      have h13 := (tl_b1 w10).mp h13
      obtain ⟨a, lta, rfl⟩ := tl_of (x := x) (by omega)
      have ea : (nI a).toInt = ((a : Nat) : Int) := nI_toInt lta
      refine lv_aload_n hx hb dX0_set_18 rfl (lv_at hl 0 rfl) ?_
      refine va_get (D := (dC, dI)) (ci := 0) (v := .ref q0) (C := RX0) (T := TX0) (N := 4) hx hb hts hinX0 hown hK hP 0 rfl rfl 0 (by decide) (hts _ (List.mem_cons_of_mem _ k37)) (fun _ h9 => h9) rfl dX0_set_19 ?_
      refine lv_iload_n hx hb dX0_set_22 rfl (lv_at hl 1 rfl) ?_
      refine tl_iald (v := T0 a) hx hb hK hP 1 0 rfl rfl (by omega) (by decide) (hT _ (by omega)) dX0_set_23 ?_
      refine lv_istore_n (lv' := [(3, .int (T0 a)), (0, .ref h0), (1, .int (nI a)), (2, .int y)]) hx hb dX0_set_24 rfl hl (by decide) rfl (fun ls hl => ?_)
      refine lv_aload_n hx hb dX0_set_25 rfl (lv_at hl 1 rfl) ?_
      refine va_get (D := (dC, dI)) (ci := 0) (v := .ref q0) (C := RX0) (T := TX0) (N := 4) hx hb hts hinX0 hown hK hP 0 rfl rfl 0 (by decide) (hts _ (List.mem_cons_of_mem _ k37)) (fun _ h9 => h9) rfl dX0_set_26 ?_
      refine lv_iload_n hx hb dX0_set_29 rfl (lv_at hl 2 rfl) ?_
      refine lv_iload_n hx hb dX0_set_30 rfl (lv_at hl 3 rfl) ?_
      refine tl_iast hx hb hK hP hD hS 1 0 rfl rfl (by omega) (by decide) dX0_set_31 (fun H locs hP hD hS => ?_)
      have hP : va_P (dC, dI) vwCl [(h0, .inr (0, [.ref q0, .ref q1, .int (nI n), .int (nI k)])), (q0, .inl (cA, 3000, .inl (upd T a y))), (q1, .inl (cB, 40, .inl G))] H := hP
      have hD : va_D A [(h0, .inr (0, [.ref q0, .ref q1, .int (nI n), .int (nI k)])), (q0, .inl (cA, 3000, .inl (upd T a y))), (q1, .inl (cB, 40, .inl G))] := hD
      refine lv_iload_n hx hb dX0_set_32 rfl (lv_at hl 0 rfl) ?_
      subst hQ
      exact W.iret (v := T0 a) hx hb hr (fun t ht hW => ⟨⟨T0 a, (n, upd T a y, k, G), rfl, (by rw [(show sp_set (nI a) y n T0 k G0 = (T0 a, (n, upd T0 a y, k, G0)) from (by unfold sp_set; (try simp only [nI_clamp lta]); (repeat' split) <;> first | rfl | (exfalso; omega)))]; exact ⟨rfl, tE_mk (pu_ups hT) hG hn hk⟩), by rw [ht]; exact hP, va_K.moved hW.alike hK, hD⟩, hS.F ht⟩) hS.2.2 dX0_set_33
    · skip
      have h13 := (tl_b0 w10).mp h13
      refine lv_iconst (v := (-1 : Int32)) hx hb dX0_set_16 (by decide) ?_
      subst hQ
      exact W.iret (v := (-1 : Int32)) hx hb hr (fun t ht hW => ⟨⟨(-1 : Int32), (n, T, k, G), rfl, (by rw [(show sp_set x y n T0 k G0 = ((-1 : Int32), (n, T0, k, G0)) from (by unfold sp_set; (repeat' split) <;> first | rfl | (exfalso; omega)))]; exact ⟨rfl, tE_mk hT hG hn hk⟩), by rw [ht]; exact hP, va_K.moved hW.alike hK, hD⟩, hS.F ht⟩) hS.2.2 dX0_set_17
set_option maxHeartbeats 4000000 in
set_option maxRecDepth 100000 in
theorem c_X_turn (l : Launch) (dC : Nat → ClassId) (dI : Nat → Nat → Nat) (h0 q0 q1 sz n k : Nat) (cA cB : ClassId) (T G T0 G0 : Nat → Int32) (hT : ∀ j, j < n → T j = T0 j) (hG : ∀ j, j < k → G j = G0 j) (hn : n ≤ 3000) (hk : k ≤ 40)  : Met l yX0_turn wsX0_turn ({ frames := 0, cells := 0, slots := 0, locals := 0 } : Room) (va_Pc [.ref h0] (fun U => U.heap.size = sz ∧ va_P (dC, dI) vwCl [(h0, .inr (0, [.ref q0, .ref q1, .int (nI n), .int (nI k)])), (q0, .inl (cA, 3000, .inl T)), (q1, .inl (cB, 40, .inl G))] U.heap ∧ va_K (dC, dI) vwCl [(cA, .int), (cB, .int)] U ∧ va_D (fun _ => True) [(h0, .inr (0, [.ref q0, .ref q1, .int (nI n), .int (nI k)])), (q0, .inl (cA, 3000, .inl T)), (q1, .inl (cB, 40, .inl G))])) (va_Qi (fun (r : Int32) (u : tS) => r = (sp_turn n T0 k G0).1 ∧ tE u (sp_turn n T0 k G0).2) (at_X dC dI (va_A [(h0, .inr (0, [.ref q0, .ref q1, .int (nI n), .int (nI k)])), (q0, .inl (cA, 3000, .inl T)), (q1, .inl (cB, 40, .inl G))] sz) h0 q0 q1 cA cB) (va_A [(h0, .inr (0, [.ref q0, .ref q1, .int (nI n), .int (nI k)])), (q0, .inl (cA, 3000, .inl T)), (q1, .inl (cB, 40, .inl G))] sz)) 0 0 (va_A [(h0, .inr (0, [.ref q0, .ref q1, .int (nI n), .int (nI k)])), (q0, .inl (cA, 3000, .inl T)), (q1, .inl (cB, 40, .inl G))] sz) := by
  refine Met.ofW (cc := cX0_turn) (maxL := 4) (ret := (some .int)) (by decide) rfl ?_
  intro p e s m args below meth c s₁ B hml hv
  obtain ⟨rfl, hsz, hP, hK, hD0⟩ := hv
  have hx := B.exec
  have hb := B.bytes
  have hr := B.returns
  have hts := atoms_spec (ws := wsX0_turn) B.pre
  have hown : s.vm.findClass RX0 = some m.cls := findClass_of_methodNamed B.named
  have hlocks := B.notSynchronized
  subst hsz
  have hD := hD0.self (sz := s.heap.size)
  generalize hAe : va_A [(h0, .inr (0, [.ref q0, .ref q1, .int (nI n), .int (nI k)])), (q0, .inl (cA, 3000, .inl T)), (q1, .inl (cB, 40, .inl G))] s.heap.size = A at hD ⊢
  have hA : ∀ q : Nat, s.heap.size ≤ q → A q := fun q h => by rw [← hAe]; exact Or.inr h
  have hS : va_S A s.heap s.heap [] := va_S.rf
  have hP : va_P (dC, dI) vwCl [(h0, .inr (0, [.ref q0, .ref q1, .int (nI n), .int (nI k)])), (q0, .inl (cA, 3000, .inl T)), (q1, .inl (cB, 40, .inl G))] s.heap := hP
  have hinX0 : ∀ w ∈ u_ws RX0 TX0 4, w ∈ wsX0_turn := fun w h => List.mem_cons_of_mem _ (inX0 w h)
  have hl := lv_entry ([.ref h0]) (n := 4) (Nat.le_of_ble_eq_true rfl)
  rw [lg_entry_eq]
  generalize (lg_sl ([.ref h0]) ++ List.replicate (4 - (lg_sl ([.ref h0])).length) Slot.unset).toArray = ls at hl ⊢
  have hl : lv_has ls 4 [(0, .ref h0)] := hl
  refine tl_q (fun Q hQ => ?_)
  refine lv_iconst (v := nI 0) hx hb dX0_turn_0 (by decide) ?_
  refine lv_istore_n (lv' := [(1, .int (nI 0)), (0, .ref h0)]) hx hb dX0_turn_1 rfl hl (by decide) rfl (fun ls hl => ?_)
  have LP2 : ∀ (fu : Nat) (j : Nat) (F : Nat → Int32) (H : Heap) (locs : List Loc) (ls : Array Slot), n / 2 - j < fu → j ≤ n / 2 → (∀ i, i < n → F i = if i < j ∨ n - 1 - j < i then T0 (n - 1 - i) else T0 i) → lv_has ls 4 [(0, .ref h0), (1, .int (nI j))] → va_P (dC, dI) vwCl [(h0, .inr (0, [.ref q0, .ref q1, .int (nI n), .int (nI k)])), (q0, .inl (cA, 3000, .inl F)), (q1, .inl (cB, 40, .inl G))] H → va_D A [(h0, .inr (0, [.ref q0, .ref q1, .int (nI n), .int (nI k)])), (q0, .inl (cA, 3000, .inl F)), (q1, .inl (cB, 40, .inl G))] → va_S A s.heap H locs → W p l e (headSpec wsX0_turn ({ frames := 0, cells := 0, slots := 0, locals := 0 } : Room)).room s m ([.ref h0] : List Value).toArray below meth c H locs 0 0 Q (F0 m 2 ls []) := by
    intro fu
    induction fu with
    | zero => intro j F H locs ls hfu; exact absurd hfu (Nat.not_lt_zero _)
    | succ fu ih =>
      intro j F H locs ls hfu hj hF hl hP hD hS
      refine lv_iload_n hx hb dX0_turn_2 rfl (lv_at hl 1 rfl) ?_
      refine lv_aload_n hx hb dX0_turn_3 rfl (lv_at hl 0 rfl) ?_
      refine va_get (D := (dC, dI)) (ci := 0) (v := .int (nI n)) (C := RX0) (T := TX0) (N := 4) hx hb hts hinX0 hown hK hP 0 rfl rfl 2 (by decide) (hts _ (List.mem_cons_of_mem _ k39)) (fun _ h9 => h9) rfl dX0_turn_4 ?_
      refine lv_iconst (v := nI 2) hx hb dX0_turn_7 (by decide) ?_
      refine lv_idiv hx hb dX0_turn_8 (by decide) ?_
      refine tl_top (pk_div (by omega) (by omega) (by omega)) ?_
      refine lv_icmp_ge (tgt := 53) hx hb dX0_turn_9 rfl (fun h9 => ?_) (fun h9 => ?_)
      · skip
        have h9 := (tl_le (show (nI (n / 2)).toInt = ((n / 2 : Nat) : Int) from (nI_toInt (by omega))) (show (nI j).toInt = ((j : Nat) : Int) from (nI_toInt (by omega)))).mp h9
        refine lv_aload_n hx hb dX0_turn_53 rfl (lv_at hl 0 rfl) ?_
        refine va_get (D := (dC, dI)) (ci := 0) (v := .int (nI n)) (C := RX0) (T := TX0) (N := 4) hx hb hts hinX0 hown hK hP 0 rfl rfl 2 (by decide) (hts _ (List.mem_cons_of_mem _ k39)) (fun _ h9 => h9) rfl dX0_turn_54 ?_
        subst hQ
        exact W.iret (v := nI n) hx hb hr (fun t ht hW => ⟨⟨nI n, (n, F, k, G), rfl, ⟨rfl, tE_mk (pu_turn_end hj (by omega) hF) hG hn hk⟩, by rw [ht]; exact hP, va_K.moved hW.alike hK, hD⟩, hS.F ht⟩) hS.2.2 dX0_turn_57
      · skip
        have h9 := (not_congr (tl_le (show (nI (n / 2)).toInt = ((n / 2 : Nat) : Int) from (nI_toInt (by omega))) (show (nI j).toInt = ((j : Nat) : Int) from (nI_toInt (by omega))))).mp h9
        refine lv_aload_n hx hb dX0_turn_12 rfl (lv_at hl 0 rfl) ?_
        refine va_get (D := (dC, dI)) (ci := 0) (v := .int (nI n)) (C := RX0) (T := TX0) (N := 4) hx hb hts hinX0 hown hK hP 0 rfl rfl 2 (by decide) (hts _ (List.mem_cons_of_mem _ k39)) (fun _ h9 => h9) rfl dX0_turn_13 ?_
        refine lv_iconst (v := nI 1) hx hb dX0_turn_16 (by decide) ?_
        refine lv_isub hx hb dX0_turn_17 ?_
        refine tl_top (pk_sub (by omega)) ?_
        refine lv_iload_n hx hb dX0_turn_18 rfl (lv_at hl 1 rfl) ?_
        refine lv_isub hx hb dX0_turn_19 ?_
        refine tl_top (pk_sub (by omega)) ?_
        refine lv_istore_n (lv' := [(2, .int (nI (n - 1 - j))), (0, .ref h0), (1, .int (nI j))]) hx hb dX0_turn_20 rfl hl (by decide) rfl (fun ls hl => ?_)
        refine lv_aload_n hx hb dX0_turn_21 rfl (lv_at hl 1 rfl) ?_
        refine va_get (D := (dC, dI)) (ci := 0) (v := .ref q0) (C := RX0) (T := TX0) (N := 4) hx hb hts hinX0 hown hK hP 0 rfl rfl 0 (by decide) (hts _ (List.mem_cons_of_mem _ k37)) (fun _ h9 => h9) rfl dX0_turn_22 ?_
        refine lv_iload_n hx hb dX0_turn_25 rfl (lv_at hl 2 rfl) ?_
        refine tl_iald (v := T0 j) hx hb hK hP 1 0 rfl rfl (by omega) (by decide) (by rw [hF j (by omega), if_neg (by omega)]) dX0_turn_26 ?_
        refine lv_istore_n (lv' := [(3, .int (T0 j)), (2, .int (nI (n - 1 - j))), (0, .ref h0), (1, .int (nI j))]) hx hb dX0_turn_27 rfl hl (by decide) rfl (fun ls hl => ?_)
        refine lv_aload_n hx hb dX0_turn_28 rfl (lv_at hl 2 rfl) ?_
        refine va_get (D := (dC, dI)) (ci := 0) (v := .ref q0) (C := RX0) (T := TX0) (N := 4) hx hb hts hinX0 hown hK hP 0 rfl rfl 0 (by decide) (hts _ (List.mem_cons_of_mem _ k37)) (fun _ h9 => h9) rfl dX0_turn_29 ?_
        refine lv_iload_n hx hb dX0_turn_32 rfl (lv_at hl 3 rfl) ?_
        refine lv_aload_n hx hb dX0_turn_33 rfl (lv_at hl 2 rfl) ?_
        refine va_get (D := (dC, dI)) (ci := 0) (v := .ref q0) (C := RX0) (T := TX0) (N := 4) hx hb hts hinX0 hown hK hP 0 rfl rfl 0 (by decide) (hts _ (List.mem_cons_of_mem _ k37)) (fun _ h9 => h9) rfl dX0_turn_34 ?_
        refine lv_iload_n hx hb dX0_turn_37 rfl (lv_at hl 1 rfl) ?_
        refine tl_iald (v := T0 (n - 1 - j)) hx hb hK hP 1 0 rfl rfl (by omega) (by decide) (by rw [hF _ (by omega), if_neg (by omega)]) dX0_turn_38 ?_
        refine tl_iast hx hb hK hP hD hS 1 0 rfl rfl (by omega) (by decide) dX0_turn_39 (fun H locs hP hD hS => ?_)
        have hP : va_P (dC, dI) vwCl [(h0, .inr (0, [.ref q0, .ref q1, .int (nI n), .int (nI k)])), (q0, .inl (cA, 3000, .inl (upd F j (T0 (n - 1 - j))))), (q1, .inl (cB, 40, .inl G))] H := hP
        have hD : va_D A [(h0, .inr (0, [.ref q0, .ref q1, .int (nI n), .int (nI k)])), (q0, .inl (cA, 3000, .inl (upd F j (T0 (n - 1 - j))))), (q1, .inl (cB, 40, .inl G))] := hD
        refine lv_aload_n hx hb dX0_turn_40 rfl (lv_at hl 2 rfl) ?_
        refine va_get (D := (dC, dI)) (ci := 0) (v := .ref q0) (C := RX0) (T := TX0) (N := 4) hx hb hts hinX0 hown hK hP 0 rfl rfl 0 (by decide) (hts _ (List.mem_cons_of_mem _ k37)) (fun _ h9 => h9) rfl dX0_turn_41 ?_
        refine lv_iload_n hx hb dX0_turn_44 rfl (lv_at hl 1 rfl) ?_
        refine lv_iload_n hx hb dX0_turn_45 rfl (lv_at hl 0 rfl) ?_
        refine tl_iast hx hb hK hP hD hS 1 0 rfl rfl (by omega) (by decide) dX0_turn_46 (fun H locs hP hD hS => ?_)
        have hP : va_P (dC, dI) vwCl [(h0, .inr (0, [.ref q0, .ref q1, .int (nI n), .int (nI k)])), (q0, .inl (cA, 3000, .inl (upd (upd F j (T0 (n - 1 - j))) (n - 1 - j) (T0 j)))), (q1, .inl (cB, 40, .inl G))] H := hP
        have hD : va_D A [(h0, .inr (0, [.ref q0, .ref q1, .int (nI n), .int (nI k)])), (q0, .inl (cA, 3000, .inl (upd (upd F j (T0 (n - 1 - j))) (n - 1 - j) (T0 j)))), (q1, .inl (cB, 40, .inl G))] := hD
        refine lv_iinc (lv' := [(1, .int (nI (j + 1))), (3, .int (T0 j)), (2, .int (nI (n - 1 - j))), (0, .ref h0)]) (k := 3) (v := nI (j + 1)) hx hb dX0_turn_47 hl rfl (tl_inc1 _) (by decide) rfl (fun ls hl => ?_)
        refine lv_goto (tgt := 2) hx hb dX0_turn_50 rfl ?_
        exact ih (j + 1) (upd (upd F j (T0 (n - 1 - j))) (n - 1 - j) (T0 j)) _ _ ls (by omega) (by omega) (pu_turn (by omega) hF) (lv_sub hl [3, 0] rfl) hP hD hS
  exact LP2 _ 0 T _ _ ls (Nat.lt_succ_self _) (by omega) (pu_turn0 hT) (lv_sub hl [1, 0] rfl) hP hD hS
set_option maxHeartbeats 4000000 in
set_option maxRecDepth 100000 in
theorem c_X_length (l : Launch) (dC : Nat → ClassId) (dI : Nat → Nat → Nat) (h0 q0 q1 sz n k : Nat) (cA cB : ClassId) (T G T0 G0 : Nat → Int32) (hT : ∀ j, j < n → T j = T0 j) (hG : ∀ j, j < k → G j = G0 j) (hn : n ≤ 3000) (hk : k ≤ 40) (x : Int32) : Met l yX0_length wsX0_length ({ frames := 0, cells := 0, slots := 0, locals := 0 } : Room) (va_Pc [.ref h0, .int x] (fun U => U.heap.size = sz ∧ va_P (dC, dI) vwCl [(h0, .inr (0, [.ref q0, .ref q1, .int (nI n), .int (nI k)])), (q0, .inl (cA, 3000, .inl T)), (q1, .inl (cB, 40, .inl G))] U.heap ∧ va_K (dC, dI) vwCl [(cA, .int), (cB, .int)] U ∧ va_D (fun _ => True) [(h0, .inr (0, [.ref q0, .ref q1, .int (nI n), .int (nI k)])), (q0, .inl (cA, 3000, .inl T)), (q1, .inl (cB, 40, .inl G))])) (va_Qi (fun (r : Int32) (u : tS) => r = (sp_length x n T0 k G0).1 ∧ tE u (sp_length x n T0 k G0).2) (at_X dC dI (va_A [(h0, .inr (0, [.ref q0, .ref q1, .int (nI n), .int (nI k)])), (q0, .inl (cA, 3000, .inl T)), (q1, .inl (cB, 40, .inl G))] sz) h0 q0 q1 cA cB) (va_A [(h0, .inr (0, [.ref q0, .ref q1, .int (nI n), .int (nI k)])), (q0, .inl (cA, 3000, .inl T)), (q1, .inl (cB, 40, .inl G))] sz)) 0 0 (va_A [(h0, .inr (0, [.ref q0, .ref q1, .int (nI n), .int (nI k)])), (q0, .inl (cA, 3000, .inl T)), (q1, .inl (cB, 40, .inl G))] sz) := by
  refine Met.ofW (cc := cX0_length) (maxL := 3) (ret := (some .int)) (by decide) rfl ?_
  intro p e s m args below meth c s₁ B hml hv
  obtain ⟨rfl, hsz, hP, hK, hD0⟩ := hv
  have hx := B.exec
  have hb := B.bytes
  have hr := B.returns
  have hts := atoms_spec (ws := wsX0_length) B.pre
  have hown : s.vm.findClass RX0 = some m.cls := findClass_of_methodNamed B.named
  have hlocks := B.notSynchronized
  subst hsz
  have hD := hD0.self (sz := s.heap.size)
  generalize hAe : va_A [(h0, .inr (0, [.ref q0, .ref q1, .int (nI n), .int (nI k)])), (q0, .inl (cA, 3000, .inl T)), (q1, .inl (cB, 40, .inl G))] s.heap.size = A at hD ⊢
  have hA : ∀ q : Nat, s.heap.size ≤ q → A q := fun q h => by rw [← hAe]; exact Or.inr h
  have hS : va_S A s.heap s.heap [] := va_S.rf
  have hP : va_P (dC, dI) vwCl [(h0, .inr (0, [.ref q0, .ref q1, .int (nI n), .int (nI k)])), (q0, .inl (cA, 3000, .inl T)), (q1, .inl (cB, 40, .inl G))] s.heap := hP
  have hinX0 : ∀ w ∈ u_ws RX0 TX0 4, w ∈ wsX0_length := fun w h => List.mem_cons_of_mem _ (inX0 w h)
  have hl := lv_entry ([.ref h0, .int x]) (n := 3) (Nat.le_of_ble_eq_true rfl)
  rw [lg_entry_eq]
  generalize (lg_sl ([.ref h0, .int x]) ++ List.replicate (3 - (lg_sl ([.ref h0, .int x])).length) Slot.unset).toArray = ls at hl ⊢
  have hl : lv_has ls 3 [(0, .ref h0), (1, .int x)] := hl
  refine tl_q (fun Q hQ => ?_)
  refine lv_iload_n hx hb dX0_length_0 rfl (lv_at hl 1 rfl) ?_
  refine lv_if_ge (tgt := 6) hx hb dX0_length_1 rfl (fun h1 => ?_) (fun h1 => ?_)
  · skip
    have h1 := (tl_le (show (0 : Int32).toInt = (0 : Int) from Int32.toInt_zero) (show x.toInt = x.toInt from rfl)).mp h1
    refine lv_iload_n hx hb dX0_length_6 rfl (lv_at hl 1 rfl) ?_
    refine lv_sipush (v := nI 3000) hx hb dX0_length_7 (by decide) ?_
    refine lv_icmp_le (tgt := 16) hx hb dX0_length_10 rfl (fun h10 => ?_) (fun h10 => ?_)
    · skip
      have h10 := (tl_le (show x.toInt = x.toInt from rfl) (show (nI 3000).toInt = (3000 : Int) from (by decide))).mp h10
      obtain ⟨a, lta, rfl⟩ := tl_of (x := x) (by omega)
      have ea : (nI a).toInt = ((a : Nat) : Int) := nI_toInt lta
      refine lv_aload_n hx hb dX0_length_16 rfl (lv_at hl 0 rfl) ?_
      refine va_get (D := (dC, dI)) (ci := 0) (v := .int (nI n)) (C := RX0) (T := TX0) (N := 4) hx hb hts hinX0 hown hK hP 0 rfl rfl 2 (by decide) (hts _ (List.mem_cons_of_mem _ k39)) (fun _ h9 => h9) rfl dX0_length_17 ?_
      refine lv_istore_n (lv' := [(2, .int (nI n)), (0, .ref h0), (1, .int (nI a))]) hx hb dX0_length_20 rfl hl (by decide) rfl (fun ls hl => ?_)
      have LP21 : ∀ (fu : Nat) (j : Nat) (F : Nat → Int32) (H : Heap) (locs : List Loc) (ls : Array Slot), a - j < fu → n ≤ j → j ≤ a ∨ j = n → (∀ i, i < j → F i = if i < n then T0 i else 0) → lv_has ls 3 [(0, .ref h0), (1, .int (nI a)), (2, .int (nI j))] → va_P (dC, dI) vwCl [(h0, .inr (0, [.ref q0, .ref q1, .int (nI n), .int (nI k)])), (q0, .inl (cA, 3000, .inl F)), (q1, .inl (cB, 40, .inl G))] H → va_D A [(h0, .inr (0, [.ref q0, .ref q1, .int (nI n), .int (nI k)])), (q0, .inl (cA, 3000, .inl F)), (q1, .inl (cB, 40, .inl G))] → va_S A s.heap H locs → W p l e (headSpec wsX0_length ({ frames := 0, cells := 0, slots := 0, locals := 0 } : Room)).room s m ([.ref h0, .int (nI a)] : List Value).toArray below meth c H locs 0 0 Q (F0 m 21 ls []) := by
        intro fu
        induction fu with
        | zero => intro j F H locs ls hfu; exact absurd hfu (Nat.not_lt_zero _)
        | succ fu ih =>
          intro j F H locs ls hfu hj hj2 hF hl hP hD hS
          refine lv_iload_n hx hb dX0_length_21 rfl (lv_at hl 2 rfl) ?_
          refine lv_iload_n hx hb dX0_length_22 rfl (lv_at hl 1 rfl) ?_
          refine lv_icmp_ge (tgt := 39) hx hb dX0_length_23 rfl (fun h23 => ?_) (fun h23 => ?_)
          · skip
            have h23 := (tl_le (show (nI a).toInt = ((a : Nat) : Int) from (nI_toInt (by omega))) (show (nI j).toInt = ((j : Nat) : Int) from (nI_toInt (by omega)))).mp h23
            refine lv_aload_n hx hb dX0_length_39 rfl (lv_at hl 0 rfl) ?_
            refine lv_iload_n hx hb dX0_length_40 rfl (lv_at hl 1 rfl) ?_
            refine va_put (D := (dC, dI)) (ci := 0) (v := .int (nI a)) (ty := .int) (C := RX0) (T := TX0) (N := 4) hx hb hts hinX0 tyX0 tyX0_ok nmX0 hown hK hP hD hS 0 rfl rfl 2 (by decide) (hts _ (List.mem_cons_of_mem _ k39)) (fun _ h9 => h9) rfl (by decide +kernel) rfl rfl (Nat.le_of_ble_eq_true rfl) dX0_length_41 (fun H locs hP hD hS => ?_)
            have hP : va_P (dC, dI) vwCl [(h0, .inr (0, [.ref q0, .ref q1, .int (nI a), .int (nI k)])), (q0, .inl (cA, 3000, .inl F)), (q1, .inl (cB, 40, .inl G))] H := hP
            have hD : va_D A [(h0, .inr (0, [.ref q0, .ref q1, .int (nI a), .int (nI k)])), (q0, .inl (cA, 3000, .inl F)), (q1, .inl (cB, 40, .inl G))] := hD
            refine lv_aload_n hx hb dX0_length_44 rfl (lv_at hl 0 rfl) ?_
            refine va_get (D := (dC, dI)) (ci := 0) (v := .int (nI a)) (C := RX0) (T := TX0) (N := 4) hx hb hts hinX0 hown hK hP 0 rfl rfl 2 (by decide) (hts _ (List.mem_cons_of_mem _ k39)) (fun _ h9 => h9) rfl dX0_length_45 ?_
            subst hQ
            exact W.iret (v := nI a) hx hb hr (fun t ht hW => ⟨⟨nI a, (a, F, k, G), rfl, (by rw [(show sp_length (nI a) n T0 k G0 = (nI a, (a, fun j => if j < n then T0 j else 0, k, G0)) from (by unfold sp_length; (try simp only [nI_clamp lta]); (repeat' split) <;> first | rfl | (exfalso; omega)))]; exact ⟨rfl, tE_mk (fun i hi => hF i (by omega)) hG (by omega) hk⟩), by rw [ht]; exact hP, va_K.moved hW.alike hK, hD⟩, hS.F ht⟩) hS.2.2 dX0_length_48
          · skip
            have h23 := (not_congr (tl_le (show (nI a).toInt = ((a : Nat) : Int) from (nI_toInt (by omega))) (show (nI j).toInt = ((j : Nat) : Int) from (nI_toInt (by omega))))).mp h23
            refine lv_aload_n hx hb dX0_length_26 rfl (lv_at hl 0 rfl) ?_
            refine va_get (D := (dC, dI)) (ci := 0) (v := .ref q0) (C := RX0) (T := TX0) (N := 4) hx hb hts hinX0 hown hK hP 0 rfl rfl 0 (by decide) (hts _ (List.mem_cons_of_mem _ k37)) (fun _ h9 => h9) rfl dX0_length_27 ?_
            refine lv_iload_n hx hb dX0_length_30 rfl (lv_at hl 2 rfl) ?_
            refine lv_iconst (v := nI 0) hx hb dX0_length_31 (by decide) ?_
            refine tl_iast hx hb hK hP hD hS 1 0 rfl rfl (by omega) (by decide) dX0_length_32 (fun H locs hP hD hS => ?_)
            have hP : va_P (dC, dI) vwCl [(h0, .inr (0, [.ref q0, .ref q1, .int (nI n), .int (nI k)])), (q0, .inl (cA, 3000, .inl (upd F j (nI 0)))), (q1, .inl (cB, 40, .inl G))] H := hP
            have hD : va_D A [(h0, .inr (0, [.ref q0, .ref q1, .int (nI n), .int (nI k)])), (q0, .inl (cA, 3000, .inl (upd F j (nI 0)))), (q1, .inl (cB, 40, .inl G))] := hD
            refine lv_iinc (lv' := [(2, .int (nI (j + 1))), (0, .ref h0), (1, .int (nI a))]) (k := 2) (v := nI (j + 1)) hx hb dX0_length_33 hl rfl (tl_inc1 _) (by decide) rfl (fun ls hl => ?_)
            refine lv_goto (tgt := 21) hx hb dX0_length_36 rfl ?_
            exact ih (j + 1) (upd F j (nI 0)) _ _ ls (by omega) (by omega) (by omega) (pu_len hj hF) (lv_sub hl [1, 2, 0] rfl) hP hD hS
      exact LP21 _ n T _ _ ls (Nat.lt_succ_self _) (by omega) (by omega) (fun i hi => by rw [if_pos hi]; exact hT i hi) (lv_sub hl [1, 2, 0] rfl) hP hD hS
    · skip
      have h10 := (not_congr (tl_le (show x.toInt = x.toInt from rfl) (show (nI 3000).toInt = (3000 : Int) from (by decide)))).mp h10
      refine lv_bipush (v := (-3 : Int32)) hx hb dX0_length_13 (by decide) ?_
      subst hQ
      exact W.iret (v := (-3 : Int32)) hx hb hr (fun t ht hW => ⟨⟨(-3 : Int32), (n, T, k, G), rfl, (by rw [(show sp_length x n T0 k G0 = ((-3 : Int32), (n, T0, k, G0)) from (by unfold sp_length; (repeat' split) <;> first | rfl | (exfalso; omega)))]; exact ⟨rfl, tE_mk hT hG hn hk⟩), by rw [ht]; exact hP, va_K.moved hW.alike hK, hD⟩, hS.F ht⟩) hS.2.2 dX0_length_15
  · skip
    have h1 := (not_congr (tl_le (show (0 : Int32).toInt = (0 : Int) from Int32.toInt_zero) (show x.toInt = x.toInt from rfl))).mp h1
    refine lv_iconst (v := (-1 : Int32)) hx hb dX0_length_4 (by decide) ?_
    subst hQ
    exact W.iret (v := (-1 : Int32)) hx hb hr (fun t ht hW => ⟨⟨(-1 : Int32), (n, T, k, G), rfl, (by rw [(show sp_length x n T0 k G0 = ((-1 : Int32), (n, T0, k, G0)) from (by unfold sp_length; (repeat' split) <;> first | rfl | (exfalso; omega)))]; exact ⟨rfl, tE_mk hT hG hn hk⟩), by rw [ht]; exact hP, va_K.moved hW.alike hK, hD⟩, hS.F ht⟩) hS.2.2 dX0_length_5
set_option maxHeartbeats 4000000 in
set_option maxRecDepth 100000 in
theorem c_X_lift (l : Launch) (dC : Nat → ClassId) (dI : Nat → Nat → Nat) (h0 q0 q1 sz n k : Nat) (cA cB : ClassId) (T G T0 G0 : Nat → Int32) (hT : ∀ j, j < n → T j = T0 j) (hG : ∀ j, j < k → G j = G0 j) (hn : n ≤ 3000) (hk : k ≤ 40) (x y : Int32) : Met l yX0_lift wsX0_lift ({ frames := 1, cells := 0, slots := 0, locals := 21 } : Room) (va_Pc [.ref h0, .int x, .int y] (fun U => U.heap.size = sz ∧ va_P (dC, dI) vwCl [(h0, .inr (0, [.ref q0, .ref q1, .int (nI n), .int (nI k)])), (q0, .inl (cA, 3000, .inl T)), (q1, .inl (cB, 40, .inl G))] U.heap ∧ va_K (dC, dI) vwCl [(cA, .int), (cB, .int)] U ∧ va_D (fun _ => True) [(h0, .inr (0, [.ref q0, .ref q1, .int (nI n), .int (nI k)])), (q0, .inl (cA, 3000, .inl T)), (q1, .inl (cB, 40, .inl G))])) (va_Qi (fun (r : Int32) (u : tS) => r = (sp_lift x y n T0 k G0).1 ∧ tE u (sp_lift x y n T0 k G0).2) (at_X dC dI (va_A [(h0, .inr (0, [.ref q0, .ref q1, .int (nI n), .int (nI k)])), (q0, .inl (cA, 3000, .inl T)), (q1, .inl (cB, 40, .inl G))] sz) h0 q0 q1 cA cB) (va_A [(h0, .inr (0, [.ref q0, .ref q1, .int (nI n), .int (nI k)])), (q0, .inl (cA, 3000, .inl T)), (q1, .inl (cB, 40, .inl G))] sz)) 0 0 (va_A [(h0, .inr (0, [.ref q0, .ref q1, .int (nI n), .int (nI k)])), (q0, .inl (cA, 3000, .inl T)), (q1, .inl (cB, 40, .inl G))] sz) := by
  refine Met.ofW (cc := cX0_lift) (maxL := 4) (ret := (some .int)) (by decide) rfl ?_
  intro p e s m args below meth c s₁ B hml hv
  obtain ⟨rfl, hsz, hP, hK, hD0⟩ := hv
  have hx := B.exec
  have hb := B.bytes
  have hr := B.returns
  have hts := atoms_spec (ws := wsX0_lift) B.pre
  have hown : s.vm.findClass RX0 = some m.cls := findClass_of_methodNamed B.named
  have hlocks := B.notSynchronized
  subst hsz
  have hD := hD0.self (sz := s.heap.size)
  generalize hAe : va_A [(h0, .inr (0, [.ref q0, .ref q1, .int (nI n), .int (nI k)])), (q0, .inl (cA, 3000, .inl T)), (q1, .inl (cB, 40, .inl G))] s.heap.size = A at hD ⊢
  have hA : ∀ q : Nat, s.heap.size ≤ q → A q := fun q h => by rw [← hAe]; exact Or.inr h
  have hS : va_S A s.heap s.heap [] := va_S.rf
  have hP : va_P (dC, dI) vwCl [(h0, .inr (0, [.ref q0, .ref q1, .int (nI n), .int (nI k)])), (q0, .inl (cA, 3000, .inl T)), (q1, .inl (cB, 40, .inl G))] s.heap := hP
  have hinX0 : ∀ w ∈ u_ws RX0 TX0 4, w ∈ wsX0_lift := fun w h => List.mem_cons_of_mem _ (inX0 w h)
  have hl := lv_entry ([.ref h0, .int x, .int y]) (n := 4) (Nat.le_of_ble_eq_true rfl)
  rw [lg_entry_eq]
  generalize (lg_sl ([.ref h0, .int x, .int y]) ++ List.replicate (4 - (lg_sl ([.ref h0, .int x, .int y])).length) Slot.unset).toArray = ls at hl ⊢
  have hl : lv_has ls 4 [(0, .ref h0), (1, .int x), (2, .int y)] := hl
  refine tl_q (fun Q hQ => ?_)
  refine lv_iload_n hx hb dX0_lift_0 rfl (lv_at hl 1 rfl) ?_
  refine lv_if_lt (tgt := 17) hx hb dX0_lift_1 rfl (fun h1 => ?_) (fun h1 => ?_)
  · skip
    have h1 := (tl_lt (show x.toInt = x.toInt from rfl) (show (0 : Int32).toInt = (0 : Int) from Int32.toInt_zero)).mp h1
    refine lv_iconst (v := (-1 : Int32)) hx hb dX0_lift_17 (by decide) ?_
    subst hQ
    exact W.iret (v := (-1 : Int32)) hx hb hr (fun t ht hW => ⟨⟨(-1 : Int32), (n, T, k, G), rfl, (by rw [(show sp_lift x y n T0 k G0 = ((-1 : Int32), (n, T0, k, G0)) from (by unfold sp_lift; (repeat' split) <;> first | rfl | (exfalso; omega)))]; exact ⟨rfl, tE_mk hT hG hn hk⟩), by rw [ht]; exact hP, va_K.moved hW.alike hK, hD⟩, hS.F ht⟩) hS.2.2 dX0_lift_18
  · skip
    have h1 := (not_congr (tl_lt (show x.toInt = x.toInt from rfl) (show (0 : Int32).toInt = (0 : Int) from Int32.toInt_zero))).mp h1
    refine lv_iload_n hx hb dX0_lift_4 rfl (lv_at hl 2 rfl) ?_
    refine lv_iload_n hx hb dX0_lift_5 rfl (lv_at hl 1 rfl) ?_
    refine lv_icmp_lt (tgt := 17) hx hb dX0_lift_6 rfl (fun h6 => ?_) (fun h6 => ?_)
    · skip
      have h6 := (tl_lt (show y.toInt = y.toInt from rfl) (show x.toInt = x.toInt from rfl)).mp h6
      refine lv_iconst (v := (-1 : Int32)) hx hb dX0_lift_17 (by decide) ?_
      subst hQ
      exact W.iret (v := (-1 : Int32)) hx hb hr (fun t ht hW => ⟨⟨(-1 : Int32), (n, T, k, G), rfl, (by rw [(show sp_lift x y n T0 k G0 = ((-1 : Int32), (n, T0, k, G0)) from (by unfold sp_lift; (repeat' split) <;> first | rfl | (exfalso; omega)))]; exact ⟨rfl, tE_mk hT hG hn hk⟩), by rw [ht]; exact hP, va_K.moved hW.alike hK, hD⟩, hS.F ht⟩) hS.2.2 dX0_lift_18
    · skip
      have h6 := (not_congr (tl_lt (show y.toInt = y.toInt from rfl) (show x.toInt = x.toInt from rfl))).mp h6
      refine lv_iload_n hx hb dX0_lift_9 rfl (lv_at hl 2 rfl) ?_
      refine lv_aload_n hx hb dX0_lift_10 rfl (lv_at hl 0 rfl) ?_
      refine va_get (D := (dC, dI)) (ci := 0) (v := .int (nI n)) (C := RX0) (T := TX0) (N := 4) hx hb hts hinX0 hown hK hP 0 rfl rfl 2 (by decide) (hts _ (List.mem_cons_of_mem _ k39)) (fun _ h9 => h9) rfl dX0_lift_11 ?_
      refine lv_icmp_le (tgt := 19) hx hb dX0_lift_14 rfl (fun h14 => ?_) (fun h14 => ?_)
      · skip
        have h14 := (tl_le (show y.toInt = y.toInt from rfl) (show (nI n).toInt = ((n : Nat) : Int) from (nI_toInt (by omega)))).mp h14
        obtain ⟨a, lta, rfl⟩ := tl_of (x := x) (by omega)
        have ea : (nI a).toInt = ((a : Nat) : Int) := nI_toInt lta
        obtain ⟨b, ltb, rfl⟩ := tl_of (x := y) (by omega)
        have eb : (nI b).toInt = ((b : Nat) : Int) := nI_toInt ltb
        refine lv_iload_n hx hb dX0_lift_19 rfl (lv_at hl 2 rfl) ?_
        refine lv_iload_n hx hb dX0_lift_20 rfl (lv_at hl 1 rfl) ?_
        refine lv_isub hx hb dX0_lift_21 ?_
        refine tl_top (pk_sub (by omega)) ?_
        refine lv_istore_n (lv' := [(3, .int (nI (b - a))), (0, .ref h0), (1, .int (nI a)), (2, .int (nI b))]) hx hb dX0_lift_22 rfl hl (by decide) rfl (fun ls hl => ?_)
        refine lv_iload_n hx hb dX0_lift_23 rfl (lv_at hl 0 rfl) ?_
        refine lv_bipush (v := nI 40) hx hb dX0_lift_24 (by decide) ?_
        refine lv_icmp_le (tgt := 32) hx hb dX0_lift_26 rfl (fun h26 => ?_) (fun h26 => ?_)
        · skip
          have h26 := (tl_le (show (nI (b - a)).toInt = ((b - a : Nat) : Int) from (nI_toInt (by omega))) (show (nI 40).toInt = (40 : Int) from (by decide))).mp h26
          refine lv_aload_n hx hb dX0_lift_32 rfl (lv_at hl 1 rfl) ?_
          refine va_get (D := (dC, dI)) (ci := 0) (v := .ref q0) (C := RX0) (T := TX0) (N := 4) hx hb hts hinX0 hown hK hP 0 rfl rfl 0 (by decide) (hts _ (List.mem_cons_of_mem _ k37)) (fun _ h9 => h9) rfl dX0_lift_33 ?_
          refine lv_iload_n hx hb dX0_lift_36 rfl (lv_at hl 2 rfl) ?_
          refine lv_aload_n hx hb dX0_lift_37 rfl (lv_at hl 1 rfl) ?_
          refine va_get (D := (dC, dI)) (ci := 0) (v := .ref q1) (C := RX0) (T := TX0) (N := 4) hx hb hts hinX0 hown hK hP 0 rfl rfl 1 (by decide) (hts _ (List.mem_cons_of_mem _ k38)) (fun _ h9 => h9) rfl dX0_lift_38 ?_
          refine lv_iconst (v := nI 0) hx hb dX0_lift_41 (by decide) ?_
          refine lv_iload_n hx hb dX0_lift_42 rfl (lv_at hl 0 rfl) ?_
          refine tl_copy hx hb (hml.trans hl.1.symm) hown (hts _ (List.mem_cons_of_mem _ k85)) (hts _ (List.mem_cons_of_mem _ k87)) (hts _ (List.mem_cons_of_mem _ k86)) (hts _ (List.mem_cons_of_mem _ k23)) hK hP hD hS 1 2 0 1 rfl rfl rfl rfl (by decide) (by decide) (by omega) (by omega) (Nat.le_of_ble_eq_true rfl) (Nat.le_of_ble_eq_true rfl) dX0_lift_43 (fun H locs hP hD hS => ?_)
          have hP : va_P (dC, dI) vwCl [(h0, .inr (0, [.ref q0, .ref q1, .int (nI n), .int (nI k)])), (q0, .inl (cA, 3000, .inl T)), (q1, .inl (cB, 40, .inl (va_cpy T G a 0 (b - a))))] H := hP
          have hD : va_D A [(h0, .inr (0, [.ref q0, .ref q1, .int (nI n), .int (nI k)])), (q0, .inl (cA, 3000, .inl T)), (q1, .inl (cB, 40, .inl (va_cpy T G a 0 (b - a))))] := hD
          refine lv_aload_n hx hb dX0_lift_46 rfl (lv_at hl 1 rfl) ?_
          refine lv_iload_n hx hb dX0_lift_47 rfl (lv_at hl 0 rfl) ?_
          refine va_put (D := (dC, dI)) (ci := 0) (v := .int (nI (b - a))) (ty := .int) (C := RX0) (T := TX0) (N := 4) hx hb hts hinX0 tyX0 tyX0_ok nmX0 hown hK hP hD hS 0 rfl rfl 3 (by decide) (hts _ (List.mem_cons_of_mem _ k40)) (fun _ h9 => h9) rfl (by decide +kernel) rfl rfl (Nat.le_of_ble_eq_true rfl) dX0_lift_48 (fun H locs hP hD hS => ?_)
          have hP : va_P (dC, dI) vwCl [(h0, .inr (0, [.ref q0, .ref q1, .int (nI n), .int (nI (b - a))])), (q0, .inl (cA, 3000, .inl T)), (q1, .inl (cB, 40, .inl (va_cpy T G a 0 (b - a))))] H := hP
          have hD : va_D A [(h0, .inr (0, [.ref q0, .ref q1, .int (nI n), .int (nI (b - a))])), (q0, .inl (cA, 3000, .inl T)), (q1, .inl (cB, 40, .inl (va_cpy T G a 0 (b - a))))] := hD
          refine lv_aload_n hx hb dX0_lift_51 rfl (lv_at hl 1 rfl) ?_
          refine va_get (D := (dC, dI)) (ci := 0) (v := .int (nI (b - a))) (C := RX0) (T := TX0) (N := 4) hx hb hts hinX0 hown hK hP 0 rfl rfl 3 (by decide) (hts _ (List.mem_cons_of_mem _ k40)) (fun _ h9 => h9) rfl dX0_lift_52 ?_
          subst hQ
          exact W.iret (v := nI (b - a)) hx hb hr (fun t ht hW => ⟨⟨nI (b - a), (n, T, b - a, va_cpy T G a 0 (b - a)), rfl, (by rw [(show sp_lift (nI a) (nI b) n T0 k G0 = (nI (b - a), (n, T0, b - a, fun j => T0 (a + j))) from (by unfold sp_lift; (try simp only [nI_clamp lta]); (try simp only [nI_clamp ltb]); (repeat' split) <;> first | rfl | (exfalso; omega)))]; exact ⟨rfl, tE_mk hT (pu_lift hT (by omega) (by omega)) hn (by omega)⟩), by rw [ht]; exact hP, va_K.moved hW.alike hK, hD⟩, hS.F ht⟩) hS.2.2 dX0_lift_55
        · skip
          have h26 := (not_congr (tl_le (show (nI (b - a)).toInt = ((b - a : Nat) : Int) from (nI_toInt (by omega))) (show (nI 40).toInt = (40 : Int) from (by decide)))).mp h26
          refine lv_bipush (v := (-3 : Int32)) hx hb dX0_lift_29 (by decide) ?_
          subst hQ
          exact W.iret (v := (-3 : Int32)) hx hb hr (fun t ht hW => ⟨⟨(-3 : Int32), (n, T, k, G), rfl, (by rw [(show sp_lift (nI a) (nI b) n T0 k G0 = ((-3 : Int32), (n, T0, k, G0)) from (by unfold sp_lift; (try simp only [nI_clamp lta]); (try simp only [nI_clamp ltb]); (repeat' split) <;> first | rfl | (exfalso; omega)))]; exact ⟨rfl, tE_mk hT hG hn hk⟩), by rw [ht]; exact hP, va_K.moved hW.alike hK, hD⟩, hS.F ht⟩) hS.2.2 dX0_lift_31
      · skip
        have h14 := (not_congr (tl_le (show y.toInt = y.toInt from rfl) (show (nI n).toInt = ((n : Nat) : Int) from (nI_toInt (by omega))))).mp h14
        refine lv_iconst (v := (-1 : Int32)) hx hb dX0_lift_17 (by decide) ?_
        subst hQ
        exact W.iret (v := (-1 : Int32)) hx hb hr (fun t ht hW => ⟨⟨(-1 : Int32), (n, T, k, G), rfl, (by rw [(show sp_lift x y n T0 k G0 = ((-1 : Int32), (n, T0, k, G0)) from (by unfold sp_lift; (repeat' split) <;> first | rfl | (exfalso; omega)))]; exact ⟨rfl, tE_mk hT hG hn hk⟩), by rw [ht]; exact hP, va_K.moved hW.alike hK, hD⟩, hS.F ht⟩) hS.2.2 dX0_lift_18
end
section
set_option maxHeartbeats 4000000 in
set_option maxRecDepth 100000 in
theorem c_X_putWord (l : Launch) (dC : Nat → ClassId) (dI : Nat → Nat → Nat) (h0 q0 q1 sz n k : Nat) (cA cB : ClassId) (T G T0 G0 : Nat → Int32) (hT : ∀ j, j < n → T j = T0 j) (hG : ∀ j, j < k → G j = G0 j) (hn : n ≤ 3000) (hk : k ≤ 40) (a : Nat) (han : a ≤ n) (sa sv N : Nat) (f : Nat → Int32) (hN : N ≤ 5) (hch : tl_chr N f) : Met l yX0_putWord wsX0_putWord ({ frames := 4, cells := 0, slots := 0, locals := 85 } : Room) (va_Pc [.ref h0, .int (nI a), .ref sa] (fun U => U.heap.size = sz ∧ va_P (dC, dI) vwCl [(h0, .inr (0, [.ref q0, .ref q1, .int (nI n), .int (nI k)])), (q0, .inl (cA, 3000, .inl T)), (q1, .inl (cB, 40, .inl G))] U.heap ∧ va_K (dC, dI) vwCl [(cA, .int), (cB, .int)] U ∧ va_D (fun _ => True) [(h0, .inr (0, [.ref q0, .ref q1, .int (nI n), .int (nI k)])), (q0, .inl (cA, 3000, .inl T)), (q1, .inl (cB, 40, .inl G))] ∧ sK sa sv N f (va_A [(h0, .inr (0, [.ref q0, .ref q1, .int (nI n), .int (nI k)])), (q0, .inl (cA, 3000, .inl T)), (q1, .inl (cB, 40, .inl G))] sz) U U.heap)) (va_Qi (fun (r : Int32) (u : tS) => r = (sp_put a a f N n T0 k G0).1 ∧ tE u (sp_put a a f N n T0 k G0).2) (at_X dC dI (va_A [(h0, .inr (0, [.ref q0, .ref q1, .int (nI n), .int (nI k)])), (q0, .inl (cA, 3000, .inl T)), (q1, .inl (cB, 40, .inl G))] sz) h0 q0 q1 cA cB) (va_A [(h0, .inr (0, [.ref q0, .ref q1, .int (nI n), .int (nI k)])), (q0, .inl (cA, 3000, .inl T)), (q1, .inl (cB, 40, .inl G))] sz)) 0 0 (va_A [(h0, .inr (0, [.ref q0, .ref q1, .int (nI n), .int (nI k)])), (q0, .inl (cA, 3000, .inl T)), (q1, .inl (cB, 40, .inl G))] sz) := by
  refine Met.ofW (cc := cX0_putWord) (maxL := 5) (ret := (some .int)) (by decide) rfl ?_
  intro p e s m args below meth c s₁ B hml hv
  obtain ⟨rfl, hsz, hP, hK, hD0, hSK⟩ := hv
  have hx := B.exec
  have hb := B.bytes
  have hr := B.returns
  have hts := atoms_spec (ws := wsX0_putWord) B.pre
  have hown : s.vm.findClass RX0 = some m.cls := findClass_of_methodNamed B.named
  have hlocks := B.notSynchronized
  subst hsz
  have hD := hD0.self (sz := s.heap.size)
  generalize hAe : va_A [(h0, .inr (0, [.ref q0, .ref q1, .int (nI n), .int (nI k)])), (q0, .inl (cA, 3000, .inl T)), (q1, .inl (cB, 40, .inl G))] s.heap.size = A at hD hSK ⊢
  have hA : ∀ q : Nat, s.heap.size ≤ q → A q := fun q h => by rw [← hAe]; exact Or.inr h
  have hS : va_S A s.heap s.heap [] := va_S.rf
  have hP : va_P (dC, dI) vwCl [(h0, .inr (0, [.ref q0, .ref q1, .int (nI n), .int (nI k)])), (q0, .inl (cA, 3000, .inl T)), (q1, .inl (cB, 40, .inl G))] s.heap := hP
  have hinX0 : ∀ w ∈ u_ws RX0 TX0 4, w ∈ wsX0_putWord := fun w h => List.mem_cons_of_mem _ (inX0 w h)
  have hl := lv_entry ([.ref h0, .int (nI a), .ref sa]) (n := 5) (Nat.le_of_ble_eq_true rfl)
  rw [lg_entry_eq]
  generalize (lg_sl ([.ref h0, .int (nI a), .ref sa]) ++ List.replicate (5 - (lg_sl ([.ref h0, .int (nI a), .ref sa])).length) Slot.unset).toArray = ls at hl ⊢
  have hl : lv_has ls 5 [(0, .ref h0), (1, .int (nI a)), (2, .ref sa)] := hl
  refine tl_q (fun Q hQ => ?_)
  refine lv_aload_n hx hb dX0_putWord_0 rfl (lv_at hl 2 rfl) ?_
  refine vp_callSi ((va_runV (As := []) (rest := []) ⟨hx, hb, hml, hown, hts⟩ (c_J_length l sa sv N f (by omega)) (cwV 0 hts (gV_ (fun w h => List.mem_cons_of_mem _ h) k97 k98 k99 k25 k100) rfl rfl rfl (by decide +kernel) ⟨Nat.le_of_ble_eq_true rfl, Nat.le_of_ble_eq_true rfl⟩) ⟨fun a U g mk q => by obtain ⟨q0, qS⟩ := q; exact ⟨q0, sK_moved (u := U) (U := U.calling g mk a) (Vm.Alike.refl U.vm) qS⟩, va_Orecv hSK.1 hS, fun U hU hW => ⟨rfl, sK_at hSK hS (fun q h => h.elim) hW.alike hU⟩⟩ rfl rfl hl.1 rfl (lv_room (Nat.le_of_ble_eq_true rfl)) dX0_putWord_1 ⟨Nat.le_of_ble_eq_true rfl, Nat.le_of_ble_eq_true rfl⟩).run) (fun r1 w1 => ?_)
  try dsimp only at w1
  subst w1
  refine lv_istore_n (lv' := [(3, .int (nI N)), (0, .ref h0), (1, .int (nI a)), (2, .ref sa)]) hx hb dX0_putWord_4 rfl hl (by decide) rfl (fun ls hl => ?_)
  refine lv_aload_n hx hb dX0_putWord_5 rfl (lv_at hl 1 rfl) ?_
  refine lv_iload_n hx hb dX0_putWord_6 rfl (lv_at hl 0 rfl) ?_
  have ea7_0 : (nI N).toInt = ((N : Nat) : Int) := (nI_toInt (by omega))
  refine vp_callSi ((va_runV (As := [.int (nI N)]) (rest := []) ⟨hx, hb, hml, hown, hts⟩ (c_X_hasRoom l dC dI h0 q0 q1 n k cA cB T G T0 G0 hT hG hn hk (nI N) (by omega) (by omega)) (cwV 1 hts (gV_ (fun w h => List.mem_cons_of_mem _ h) k77 k79 k1 k21 k80) rfl rfl rfl (by decide +kernel) ⟨Nat.le_of_ble_eq_true rfl, Nat.le_of_ble_eq_true rfl⟩) ⟨fun a U g mk q => by obtain ⟨q0, qP, qK⟩ := q; exact ⟨q0, qP, va_K.moved (u := U) (U := U.calling g mk a) (Vm.Alike.refl U.vm) qK⟩, va_recv hK hP (ci := 0) (q0 := 0) rfl rfl, fun U hU hW => ⟨rfl, by rw [hU]; exact hP, va_K.moved hW.alike hK⟩⟩ rfl rfl hl.1 rfl (lv_room (Nat.le_of_ble_eq_true rfl)) dX0_putWord_7 ⟨Nat.le_of_ble_eq_true rfl, Nat.le_of_ble_eq_true rfl⟩).run) (fun r7 w7 => ?_)
  try dsimp only at w7
  refine lv_if_ne (tgt := 16) hx hb dX0_putWord_10 rfl (fun h10 => ?_) (fun h10 => ?_)
  · skip
    have h10 := (tl_b1 w7).mp h10
    refine lv_aload_n hx hb dX0_putWord_16 rfl (lv_at hl 1 rfl) ?_
    refine lv_iload_n hx hb dX0_putWord_17 rfl (lv_at hl 2 rfl) ?_
    refine lv_iload_n hx hb dX0_putWord_18 rfl (lv_at hl 2 rfl) ?_
    refine lv_iload_n hx hb dX0_putWord_19 rfl (lv_at hl 0 rfl) ?_
    have hPc := hP.sub (ws' := [(h0, .inr (0, [.ref q0, .ref q1, .int (nI n), .int (nI k)])), (q0, .inl (cA, 3000, .inl T)), (q1, .inl (cB, 40, .inl G))]) [0, 1, 2] rfl
    have hDc := hD.sub (ws' := [(h0, .inr (0, [.ref q0, .ref q1, .int (nI n), .int (nI k)])), (q0, .inl (cA, 3000, .inl T)), (q1, .inl (cB, 40, .inl G))]) [0, 1, 2] (by decide) rfl
    have hKc := hK
    have hFc := va_free (wc := [(h0, .inr (0, [.ref q0, .ref q1, .int (nI n), .int (nI k)])), (q0, .inl (cA, 3000, .inl T)), (q1, .inl (cB, 40, .inl G))]) hD hS hA [0, 1, 2] rfl
    refine va_callv (va_runV (As := [.int (nI a), .int (nI a), .int (nI N)]) (rest := []) ⟨hx, hb, hml, hown, hts⟩ (c_X_makeGap l dC dI h0 q0 q1 s.heap.size n k cA cB T G T0 G0 hT hG hn hk a a N (by omega) (by omega) (by omega)) (cwV 3 hts (gV_ (fun w h => List.mem_cons_of_mem _ h) k81 k83 k2 k21 k84) rfl rfl rfl (by decide +kernel) ⟨Nat.le_of_ble_eq_true rfl, Nat.le_of_ble_eq_true rfl⟩) ⟨fun a U g mk q => by obtain ⟨q0, q1, qP, qK, qD⟩ := q; exact ⟨q0, q1, qP, va_K.moved (u := U) (U := U.calling g mk a) (Vm.Alike.refl U.vm) qK, qD⟩, va_recv hKc hPc (ci := 0) (q0 := 0) rfl rfl, fun U hU hW => ⟨rfl, by rw [hU], by rw [hU]; exact hPc, va_K.moved hW.alike hKc, hDc.weaken (fun _ _ _ _ => trivial)⟩⟩ rfl rfl hl.1 rfl (lv_room (Nat.le_of_ble_eq_true rfl)) dX0_putWord_20 ⟨Nat.le_of_ble_eq_true rfl, Nat.le_of_ble_eq_true rfl⟩) hS (fun q _ h => hFc q h) hFc (fun u20 t H locs ht hvm w20 hB hz1 hk1 hS => ?_)
    try dsimp only at w20
    subst w20
    obtain ⟨hP1, hK1, hD1⟩ := hB
    rw [ht] at hP1
    obtain ⟨hP, hD⟩ := va_join (wr := []) (w1 := [(h0, .inr (0, [.ref q0, .ref q1, .int (nI (n - (a - a) + N)), .int (nI k)])), (q0, .inl (cA, 3000, .inl (va_cpy T T a (a + N) (n - a)))), (q1, .inl (cB, 40, .inl G))]) hP hD [0, 1, 2] [] rfl rfl (by decide) (by decide) hk1 hFc hP1 hD1
    have hP : va_P (dC, dI) vwCl [(h0, .inr (0, [.ref q0, .ref q1, .int (nI (n - (a - a) + N)), .int (nI k)])), (q0, .inl (cA, 3000, .inl (va_cpy T T a (a + N) (n - a)))), (q1, .inl (cB, 40, .inl G))] H := hP
    have hD : va_D A [(h0, .inr (0, [.ref q0, .ref q1, .int (nI (n - (a - a) + N)), .int (nI k)])), (q0, .inl (cA, 3000, .inl (va_cpy T T a (a + N) (n - a)))), (q1, .inl (cB, 40, .inl G))] := hD
    refine lv_iconst (v := nI 0) hx hb dX0_putWord_23 (by decide) ?_
    refine lv_istore (lv' := [(4, .int (nI 0)), (3, .int (nI N)), (0, .ref h0), (1, .int (nI a)), (2, .ref sa)]) hx hb dX0_putWord_24 hl (by decide) rfl (fun ls hl => ?_)
    have LP26 : ∀ (fu : Nat) (j : Nat) (F : Nat → Int32) (H : Heap) (locs : List Loc) (ls : Array Slot), N - j < fu → j ≤ N → (∀ i, i < n - (a - a) + N → (i < a + j ∨ a + N ≤ i) → F i = tl_rep T0 a a f N i) → lv_has ls 5 [(0, .ref h0), (1, .int (nI a)), (2, .ref sa), (3, .int (nI N)), (4, .int (nI j))] → va_P (dC, dI) vwCl [(h0, .inr (0, [.ref q0, .ref q1, .int (nI (n - (a - a) + N)), .int (nI k)])), (q0, .inl (cA, 3000, .inl F)), (q1, .inl (cB, 40, .inl G))] H → va_D A [(h0, .inr (0, [.ref q0, .ref q1, .int (nI (n - (a - a) + N)), .int (nI k)])), (q0, .inl (cA, 3000, .inl F)), (q1, .inl (cB, 40, .inl G))] → va_S A s.heap H locs → W p l e (headSpec wsX0_putWord ({ frames := 4, cells := 0, slots := 0, locals := 85 } : Room)).room s m ([.ref h0, .int (nI a), .ref sa] : List Value).toArray below meth c H locs 0 0 Q (F0 m 26 ls []) := by
      intro fu
      induction fu with
      | zero => intro j F H locs ls hfu; exact absurd hfu (Nat.not_lt_zero _)
      | succ fu ih =>
        intro j F H locs ls hfu hj hF hl hP hD hS
        refine lv_iload hx hb dX0_putWord_26 (lv_at hl 4 rfl) ?_
        refine lv_iload_n hx hb dX0_putWord_28 rfl (lv_at hl 3 rfl) ?_
        refine lv_icmp_ge (tgt := 53) hx hb dX0_putWord_29 rfl (fun h29 => ?_) (fun h29 => ?_)
        · skip
          have h29 := (tl_le (show (nI N).toInt = ((N : Nat) : Int) from (nI_toInt (by omega))) (show (nI j).toInt = ((j : Nat) : Int) from (nI_toInt (by omega)))).mp h29
          refine lv_aload_n hx hb dX0_putWord_53 rfl (lv_at hl 0 rfl) ?_
          refine va_get (D := (dC, dI)) (ci := 0) (v := .int (nI (n - (a - a) + N))) (C := RX0) (T := TX0) (N := 4) hx hb hts hinX0 hown hK hP 0 rfl rfl 2 (by decide) (hts _ (List.mem_cons_of_mem _ k39)) (fun _ h9 => h9) rfl dX0_putWord_54 ?_
          subst hQ
          exact W.iret (v := nI (n - (a - a) + N)) hx hb hr (fun t ht hW => ⟨⟨nI (n - (a - a) + N), (n - (a - a) + N, F, k, G), rfl, (by unfold sp_put; rw [if_pos (by omega)]; exact ⟨rfl, tE_mk (fun i hi => hF i hi (by omega)) hG (by omega) hk⟩), by rw [ht]; exact hP, va_K.moved hW.alike hK, hD⟩, hS.F ht⟩) hS.2.2 dX0_putWord_57
        · skip
          have h29 := (not_congr (tl_le (show (nI N).toInt = ((N : Nat) : Int) from (nI_toInt (by omega))) (show (nI j).toInt = ((j : Nat) : Int) from (nI_toInt (by omega))))).mp h29
          refine lv_aload_n hx hb dX0_putWord_32 rfl (lv_at hl 0 rfl) ?_
          refine va_get (D := (dC, dI)) (ci := 0) (v := .ref q0) (C := RX0) (T := TX0) (N := 4) hx hb hts hinX0 hown hK hP 0 rfl rfl 0 (by decide) (hts _ (List.mem_cons_of_mem _ k37)) (fun _ h9 => h9) rfl dX0_putWord_33 ?_
          refine lv_iload_n hx hb dX0_putWord_36 rfl (lv_at hl 1 rfl) ?_
          refine lv_iload hx hb dX0_putWord_37 (lv_at hl 4 rfl) ?_
          refine lv_iadd hx hb dX0_putWord_39 ?_
          refine tl_top (nI_add _ _) ?_
          refine lv_aload_n hx hb dX0_putWord_40 rfl (lv_at hl 2 rfl) ?_
          refine lv_iload hx hb dX0_putWord_41 (lv_at hl 4 rfl) ?_
          refine vp_callSi ((va_runV (As := [.int (nI j)]) (rest := [.int (nI (a + j)), .ref q0]) ⟨hx, hb, hml, hown, hts⟩ (c_J_charAt l sa sv N f (by omega) hch j (by omega)) (cwV 1 hts (gV_ (fun w h => List.mem_cons_of_mem _ h) k107 k108 k109 k25 k110) rfl rfl rfl (by decide +kernel) ⟨Nat.le_of_ble_eq_true rfl, Nat.le_of_ble_eq_true rfl⟩) ⟨fun a U g mk q => by obtain ⟨q0, qS⟩ := q; exact ⟨q0, sK_moved (u := U) (U := U.calling g mk a) (Vm.Alike.refl U.vm) qS⟩, va_Orecv hSK.1 hS, fun U hU hW => ⟨rfl, sK_at hSK hS (fun q h => h.elim) hW.alike hU⟩⟩ rfl rfl hl.1 rfl (lv_room (Nat.le_of_ble_eq_true rfl)) dX0_putWord_43 ⟨Nat.le_of_ble_eq_true rfl, Nat.le_of_ble_eq_true rfl⟩).run) (fun r43 w43 => ?_)
          try dsimp only at w43
          subst w43
          refine tl_iast hx hb hK hP hD hS 1 0 rfl rfl (by omega) (by decide) dX0_putWord_46 (fun H locs hP hD hS => ?_)
          have hP : va_P (dC, dI) vwCl [(h0, .inr (0, [.ref q0, .ref q1, .int (nI (n - (a - a) + N)), .int (nI k)])), (q0, .inl (cA, 3000, .inl (upd F (a + j) (f j)))), (q1, .inl (cB, 40, .inl G))] H := hP
          have hD : va_D A [(h0, .inr (0, [.ref q0, .ref q1, .int (nI (n - (a - a) + N)), .int (nI k)])), (q0, .inl (cA, 3000, .inl (upd F (a + j) (f j)))), (q1, .inl (cB, 40, .inl G))] := hD
          refine lv_iinc (lv' := [(4, .int (nI (j + 1))), (0, .ref h0), (1, .int (nI a)), (2, .ref sa), (3, .int (nI N))]) (k := 4) (v := nI (j + 1)) hx hb dX0_putWord_47 hl rfl (tl_inc1 _) (by decide) rfl (fun ls hl => ?_)
          refine lv_goto (tgt := 26) hx hb dX0_putWord_50 rfl ?_
          exact ih (j + 1) (upd F (a + j) (f j)) _ _ ls (by omega) (by omega) (pu_puts (by omega) hF) (lv_sub hl [1, 2, 3, 4, 0] rfl) hP hD hS
    exact LP26 _ 0 (va_cpy T T a (a + N) (n - a)) _ _ ls (Nat.lt_succ_self _) (by omega) (fun i hi h => pu_gap hT han i hi (by omega)) (lv_sub hl [2, 3, 4, 1, 0] rfl) hP hD hS
  · skip
    have h10 := (tl_b0 w7).mp h10
    refine lv_bipush (v := (-3 : Int32)) hx hb dX0_putWord_13 (by decide) ?_
    subst hQ
    exact W.iret (v := (-3 : Int32)) hx hb hr (fun t ht hW => ⟨⟨(-3 : Int32), (n, T, k, G), rfl, (by unfold sp_put; rw [if_neg (by omega)]; exact ⟨rfl, tE_mk hT hG hn hk⟩), by rw [ht]; exact hP, va_K.moved hW.alike hK, hD⟩, hS.F ht⟩) hS.2.2 dX0_putWord_15
set_option maxHeartbeats 4000000 in
set_option maxRecDepth 100000 in
theorem c_X_add (l : Launch) (dC : Nat → ClassId) (dI : Nat → Nat → Nat) (h0 q0 q1 sz n k : Nat) (cA cB : ClassId) (T G T0 G0 : Nat → Int32) (hT : ∀ j, j < n → T j = T0 j) (hG : ∀ j, j < k → G j = G0 j) (hn : n ≤ 3000) (hk : k ≤ 40) (x : Int32) (y : Int64) (aF vF aT vT : Nat) : Met l yX0_add wsX0_add ({ frames := 5, cells := 0, slots := 0, locals := 109 } : Room) (va_Pc [.ref h0, .int x, .long y] (fun U => U.heap.size = sz ∧ va_P (dC, dI) vwCl [(h0, .inr (0, [.ref q0, .ref q1, .int (nI n), .int (nI k)])), (q0, .inl (cA, 3000, .inl T)), (q1, .inl (cB, 40, .inl G))] U.heap ∧ va_K (dC, dI) vwCl [(cA, .int), (cB, .int)] U ∧ va_D (fun _ => True) [(h0, .inr (0, [.ref q0, .ref q1, .int (nI n), .int (nI k)])), (q0, .inl (cA, 3000, .inl T)), (q1, .inl (cB, 40, .inl G))] ∧ (vk_R RX0 31 "false" aF U ∧ vk_R RX0 33 "true" aT U) ∧ sK aF vF 5 tl_no (va_A [(h0, .inr (0, [.ref q0, .ref q1, .int (nI n), .int (nI k)])), (q0, .inl (cA, 3000, .inl T)), (q1, .inl (cB, 40, .inl G))] sz) U U.heap ∧ sK aT vT 4 tl_yes (va_A [(h0, .inr (0, [.ref q0, .ref q1, .int (nI n), .int (nI k)])), (q0, .inl (cA, 3000, .inl T)), (q1, .inl (cB, 40, .inl G))] sz) U U.heap)) (va_Qi (fun (r : Int32) (u : tS) => r = (sp_add x y n T0 k G0).1 ∧ tE u (sp_add x y n T0 k G0).2) (at_X dC dI (va_A [(h0, .inr (0, [.ref q0, .ref q1, .int (nI n), .int (nI k)])), (q0, .inl (cA, 3000, .inl T)), (q1, .inl (cB, 40, .inl G))] sz) h0 q0 q1 cA cB) (va_A [(h0, .inr (0, [.ref q0, .ref q1, .int (nI n), .int (nI k)])), (q0, .inl (cA, 3000, .inl T)), (q1, .inl (cB, 40, .inl G))] sz)) 0 0 (va_A [(h0, .inr (0, [.ref q0, .ref q1, .int (nI n), .int (nI k)])), (q0, .inl (cA, 3000, .inl T)), (q1, .inl (cB, 40, .inl G))] sz) := by
  refine Met.ofW (cc := cX0_add) (maxL := 4) (ret := (some .int)) (by decide) rfl ?_
  intro p e s m args below meth c s₁ B hml hv
  obtain ⟨rfl, hsz, hP, hK, hD0, hR, hKF, hKT⟩ := hv
  have hx := B.exec
  have hb := B.bytes
  have hr := B.returns
  have hts := atoms_spec (ws := wsX0_add) B.pre
  have hown : s.vm.findClass RX0 = some m.cls := findClass_of_methodNamed B.named
  have hlocks := B.notSynchronized
  subst hsz
  have hD := hD0.self (sz := s.heap.size)
  generalize hAe : va_A [(h0, .inr (0, [.ref q0, .ref q1, .int (nI n), .int (nI k)])), (q0, .inl (cA, 3000, .inl T)), (q1, .inl (cB, 40, .inl G))] s.heap.size = A at hD hKF hKT ⊢
  have hA : ∀ q : Nat, s.heap.size ≤ q → A q := fun q h => by rw [← hAe]; exact Or.inr h
  have hS : va_S A s.heap s.heap [] := va_S.rf
  have hP : va_P (dC, dI) vwCl [(h0, .inr (0, [.ref q0, .ref q1, .int (nI n), .int (nI k)])), (q0, .inl (cA, 3000, .inl T)), (q1, .inl (cB, 40, .inl G))] s.heap := hP
  have hinX0 : ∀ w ∈ u_ws RX0 TX0 4, w ∈ wsX0_add := fun w h => List.mem_cons_of_mem _ (inX0 w h)
  have hl := lv_entry ([.ref h0, .int x, .long y]) (n := 4) (Nat.le_of_ble_eq_true rfl)
  rw [lg_entry_eq]
  generalize (lg_sl ([.ref h0, .int x, .long y]) ++ List.replicate (4 - (lg_sl ([.ref h0, .int x, .long y])).length) Slot.unset).toArray = ls at hl ⊢
  have hl : lv_has ls 4 [(0, .ref h0), (1, .int x), (2, .long y)] := hl
  refine tl_q (fun Q hQ => ?_)
  refine lv_iload_n hx hb dX0_add_0 rfl (lv_at hl 1 rfl) ?_
  have sw1 : x.toInt = x.toInt := rfl
  by_cases hs1_0 : x.toInt = 0
  · skip
    refine lv_tableIn (off := 31) (tgt := 32) hx hb dX0_add_1 (by omega) (by omega) (by rw [sw1, hs1_0]; first | done | rfl) rfl ?_
    refine lv_aload_n hx hb dX0_add_32 rfl (lv_at hl 0 rfl) ?_
    refine lv_aload_n hx hb dX0_add_33 rfl (lv_at hl 0 rfl) ?_
    refine va_get (D := (dC, dI)) (ci := 0) (v := .int (nI n)) (C := RX0) (T := TX0) (N := 4) hx hb hts hinX0 hown hK hP 0 rfl rfl 2 (by decide) (hts _ (List.mem_cons_of_mem _ k39)) (fun _ h9 => h9) rfl dX0_add_34 ?_
    refine lv_lload_n hx hb dX0_add_37 rfl (lv_at hl 2 rfl) ?_
    have hPc := hP.sub (ws' := [(h0, .inr (0, [.ref q0, .ref q1, .int (nI n), .int (nI k)])), (q0, .inl (cA, 3000, .inl T)), (q1, .inl (cB, 40, .inl G))]) [0, 1, 2] rfl
    have hDc := hD.sub (ws' := [(h0, .inr (0, [.ref q0, .ref q1, .int (nI n), .int (nI k)])), (q0, .inl (cA, 3000, .inl T)), (q1, .inl (cB, 40, .inl G))]) [0, 1, 2] (by decide) rfl
    have hKc := hK
    have hFc := va_free (wc := [(h0, .inr (0, [.ref q0, .ref q1, .int (nI n), .int (nI k)])), (q0, .inl (cA, 3000, .inl T)), (q1, .inl (cB, 40, .inl G))]) hD hS hA [0, 1, 2] rfl
    refine va_calli (va_runV (As := [.int (nI n), .long y]) (rest := []) ⟨hx, hb, hml, hown, hts⟩ (c_X_putDigits l dC dI h0 q0 q1 s.heap.size n k cA cB T G T0 G0 hT hG hn hk n y (by omega)) (cwV 2 hts (gV_ (fun w h => List.mem_cons_of_mem _ h) k69 k71 k0 k21 k72) rfl rfl rfl (by decide +kernel) ⟨Nat.le_of_ble_eq_true rfl, Nat.le_of_ble_eq_true rfl⟩) ⟨fun a U g mk q => by obtain ⟨q0, q1, qP, qK, qD⟩ := q; exact ⟨q0, q1, qP, va_K.moved (u := U) (U := U.calling g mk a) (Vm.Alike.refl U.vm) qK, qD⟩, va_recv hKc hPc (ci := 0) (q0 := 0) rfl rfl, fun U hU hW => ⟨rfl, by rw [hU], by rw [hU]; exact hPc, va_K.moved hW.alike hKc, hDc.weaken (fun _ _ _ _ => trivial)⟩⟩ rfl rfl hl.1 rfl (lv_room (Nat.le_of_ble_eq_true rfl)) dX0_add_38 ⟨Nat.le_of_ble_eq_true rfl, Nat.le_of_ble_eq_true rfl⟩) hS (fun q _ h => hFc q h) hFc (fun r38 u38 t H locs ht hvm w38 hB hz1 hk1 hS => ?_)
    try dsimp only at w38
    obtain ⟨n2, T2, k2, G2⟩ := u38
    obtain ⟨hP1, hK1, hD1⟩ := hB
    rw [ht] at hP1
    obtain ⟨hP, hD⟩ := va_join (wr := []) (w1 := [(h0, .inr (0, [.ref q0, .ref q1, .int (nI n2), .int (nI k2)])), (q0, .inl (cA, 3000, .inl T2)), (q1, .inl (cB, 40, .inl G2))]) hP hD [0, 1, 2] [] rfl rfl (by decide) (by decide) hk1 hFc hP1 hD1
    have hP : va_P (dC, dI) vwCl [(h0, .inr (0, [.ref q0, .ref q1, .int (nI n2), .int (nI k2)])), (q0, .inl (cA, 3000, .inl T2)), (q1, .inl (cB, 40, .inl G2))] H := hP
    have hD : va_D A [(h0, .inr (0, [.ref q0, .ref q1, .int (nI n2), .int (nI k2)])), (q0, .inl (cA, 3000, .inl T2)), (q1, .inl (cB, 40, .inl G2))] := hD
    subst hQ
    exact W.iret (v := r38) hx hb hr (fun t ht hW => ⟨⟨r38, (n2, T2, k2, G2), rfl, (by rw [show sp_add x y n T0 k G0 = sp_put n n (dg_w y) (dg_m y) n T0 k G0 from (by unfold sp_add; (repeat' split) <;> first | rfl | (exfalso; omega))]; exact w38), by rw [ht]; exact hP, va_K.moved hW.alike hK, hD⟩, hS.F ht⟩) hS.2.2 dX0_add_41
  by_cases hs1_1 : x.toInt = 1
  · skip
    refine lv_tableIn (off := 41) (tgt := 42) hx hb dX0_add_1 (by omega) (by omega) (by rw [sw1, hs1_1]; first | done | rfl) rfl ?_
    refine lv_aload_n hx hb dX0_add_42 rfl (lv_at hl 0 rfl) ?_
    refine lv_aload_n hx hb dX0_add_43 rfl (lv_at hl 0 rfl) ?_
    refine va_get (D := (dC, dI)) (ci := 0) (v := .int (nI n)) (C := RX0) (T := TX0) (N := 4) hx hb hts hinX0 hown hK hP 0 rfl rfl 2 (by decide) (hts _ (List.mem_cons_of_mem _ k39)) (fun _ h9 => h9) rfl dX0_add_44 ?_
    refine lv_lload_n hx hb dX0_add_47 rfl (lv_at hl 2 rfl) ?_
    refine lv_lconst (v := (0 : Int64)) hx hb dX0_add_48 (by decide) ?_
    refine W.lcmp hx hb dX0_add_49 ?_
    refine lv_if_ne (tgt := 58) hx hb dX0_add_50 rfl (fun h50 => ?_) (fun h50 => ?_)
    · skip
      have h50 := (not_congr (tl_leq (show y.toInt = y.toInt from rfl) (show ((0 : Int64)).toInt = (0 : Int) from (by decide)))).mp h50
      refine va_ldcS hx hb hown hR.2 dX0_add_58 ?_
      have hPc := hP.sub (ws' := [(h0, .inr (0, [.ref q0, .ref q1, .int (nI n), .int (nI k)])), (q0, .inl (cA, 3000, .inl T)), (q1, .inl (cB, 40, .inl G))]) [0, 1, 2] rfl
      have hDc := hD.sub (ws' := [(h0, .inr (0, [.ref q0, .ref q1, .int (nI n), .int (nI k)])), (q0, .inl (cA, 3000, .inl T)), (q1, .inl (cB, 40, .inl G))]) [0, 1, 2] (by decide) rfl
      have hKc := hK
      have hFc := va_free (wc := [(h0, .inr (0, [.ref q0, .ref q1, .int (nI n), .int (nI k)])), (q0, .inl (cA, 3000, .inl T)), (q1, .inl (cB, 40, .inl G))]) hD hS hA [0, 1, 2] rfl
      refine va_calli (va_runV (As := [.int (nI n), .ref aT]) (rest := []) ⟨hx, hb, hml, hown, hts⟩ (c_X_putWord l dC dI h0 q0 q1 s.heap.size n k cA cB T G T0 G0 hT hG hn hk n (by omega) aT vT 4 tl_yes (by omega) tl_chr_yes) (cwV 2 hts (gV_ (fun w h => List.mem_cons_of_mem _ h) k93 k95 k3 k21 k96) rfl rfl rfl (by decide +kernel) ⟨Nat.le_of_ble_eq_true rfl, Nat.le_of_ble_eq_true rfl⟩) ⟨fun a U g mk q => by obtain ⟨q0, q1, qP, qK, qD, qS⟩ := q; exact ⟨q0, q1, qP, va_K.moved (u := U) (U := U.calling g mk a) (Vm.Alike.refl U.vm) qK, qD, sK_moved (u := U) (U := U.calling g mk a) (Vm.Alike.refl U.vm) qS⟩, va_recv hKc hPc (ci := 0) (q0 := 0) rfl rfl, fun U hU hW => ⟨rfl, by rw [hU], by rw [hU]; exact hPc, va_K.moved hW.alike hKc, hDc.weaken (fun _ _ _ _ => trivial), sK_at hKT hS (fun q h => hFc q h) hW.alike hU⟩⟩ rfl rfl hl.1 rfl (lv_room (Nat.le_of_ble_eq_true rfl)) dX0_add_60 ⟨Nat.le_of_ble_eq_true rfl, Nat.le_of_ble_eq_true rfl⟩) hS (fun q _ h => hFc q h) hFc (fun r60 u60 t H locs ht hvm w60 hB hz1 hk1 hS => ?_)
      try dsimp only at w60
      obtain ⟨n2, T2, k2, G2⟩ := u60
      obtain ⟨hP1, hK1, hD1⟩ := hB
      rw [ht] at hP1
      obtain ⟨hP, hD⟩ := va_join (wr := []) (w1 := [(h0, .inr (0, [.ref q0, .ref q1, .int (nI n2), .int (nI k2)])), (q0, .inl (cA, 3000, .inl T2)), (q1, .inl (cB, 40, .inl G2))]) hP hD [0, 1, 2] [] rfl rfl (by decide) (by decide) hk1 hFc hP1 hD1
      have hP : va_P (dC, dI) vwCl [(h0, .inr (0, [.ref q0, .ref q1, .int (nI n2), .int (nI k2)])), (q0, .inl (cA, 3000, .inl T2)), (q1, .inl (cB, 40, .inl G2))] H := hP
      have hD : va_D A [(h0, .inr (0, [.ref q0, .ref q1, .int (nI n2), .int (nI k2)])), (q0, .inl (cA, 3000, .inl T2)), (q1, .inl (cB, 40, .inl G2))] := hD
      subst hQ
      exact W.iret (v := r60) hx hb hr (fun t ht hW => ⟨⟨r60, (n2, T2, k2, G2), rfl, (by rw [show sp_add x y n T0 k G0 = sp_put n n tl_yes 4 n T0 k G0 from (by unfold sp_add; (repeat' split) <;> first | rfl | (exfalso; omega))]; exact w60), by rw [ht]; exact hP, va_K.moved hW.alike hK, hD⟩, hS.F ht⟩) hS.2.2 dX0_add_63
    · skip
      have h50 := (tl_leq (show y.toInt = y.toInt from rfl) (show ((0 : Int64)).toInt = (0 : Int) from (by decide))).mp h50
      refine va_ldcS hx hb hown hR.1 dX0_add_53 ?_
      refine lv_goto (tgt := 60) hx hb dX0_add_55 rfl ?_
      have hPc := hP.sub (ws' := [(h0, .inr (0, [.ref q0, .ref q1, .int (nI n), .int (nI k)])), (q0, .inl (cA, 3000, .inl T)), (q1, .inl (cB, 40, .inl G))]) [0, 1, 2] rfl
      have hDc := hD.sub (ws' := [(h0, .inr (0, [.ref q0, .ref q1, .int (nI n), .int (nI k)])), (q0, .inl (cA, 3000, .inl T)), (q1, .inl (cB, 40, .inl G))]) [0, 1, 2] (by decide) rfl
      have hKc := hK
      have hFc := va_free (wc := [(h0, .inr (0, [.ref q0, .ref q1, .int (nI n), .int (nI k)])), (q0, .inl (cA, 3000, .inl T)), (q1, .inl (cB, 40, .inl G))]) hD hS hA [0, 1, 2] rfl
      refine va_calli (va_runV (As := [.int (nI n), .ref aF]) (rest := []) ⟨hx, hb, hml, hown, hts⟩ (c_X_putWord l dC dI h0 q0 q1 s.heap.size n k cA cB T G T0 G0 hT hG hn hk n (by omega) aF vF 5 tl_no (by omega) tl_chr_no) (cwV 2 hts (gV_ (fun w h => List.mem_cons_of_mem _ h) k93 k95 k3 k21 k96) rfl rfl rfl (by decide +kernel) ⟨Nat.le_of_ble_eq_true rfl, Nat.le_of_ble_eq_true rfl⟩) ⟨fun a U g mk q => by obtain ⟨q0, q1, qP, qK, qD, qS⟩ := q; exact ⟨q0, q1, qP, va_K.moved (u := U) (U := U.calling g mk a) (Vm.Alike.refl U.vm) qK, qD, sK_moved (u := U) (U := U.calling g mk a) (Vm.Alike.refl U.vm) qS⟩, va_recv hKc hPc (ci := 0) (q0 := 0) rfl rfl, fun U hU hW => ⟨rfl, by rw [hU], by rw [hU]; exact hPc, va_K.moved hW.alike hKc, hDc.weaken (fun _ _ _ _ => trivial), sK_at hKF hS (fun q h => hFc q h) hW.alike hU⟩⟩ rfl rfl hl.1 rfl (lv_room (Nat.le_of_ble_eq_true rfl)) dX0_add_60 ⟨Nat.le_of_ble_eq_true rfl, Nat.le_of_ble_eq_true rfl⟩) hS (fun q _ h => hFc q h) hFc (fun r60 u60 t H locs ht hvm w60 hB hz1 hk1 hS => ?_)
      try dsimp only at w60
      obtain ⟨n2, T2, k2, G2⟩ := u60
      obtain ⟨hP1, hK1, hD1⟩ := hB
      rw [ht] at hP1
      obtain ⟨hP, hD⟩ := va_join (wr := []) (w1 := [(h0, .inr (0, [.ref q0, .ref q1, .int (nI n2), .int (nI k2)])), (q0, .inl (cA, 3000, .inl T2)), (q1, .inl (cB, 40, .inl G2))]) hP hD [0, 1, 2] [] rfl rfl (by decide) (by decide) hk1 hFc hP1 hD1
      have hP : va_P (dC, dI) vwCl [(h0, .inr (0, [.ref q0, .ref q1, .int (nI n2), .int (nI k2)])), (q0, .inl (cA, 3000, .inl T2)), (q1, .inl (cB, 40, .inl G2))] H := hP
      have hD : va_D A [(h0, .inr (0, [.ref q0, .ref q1, .int (nI n2), .int (nI k2)])), (q0, .inl (cA, 3000, .inl T2)), (q1, .inl (cB, 40, .inl G2))] := hD
      subst hQ
      exact W.iret (v := r60) hx hb hr (fun t ht hW => ⟨⟨r60, (n2, T2, k2, G2), rfl, (by rw [show sp_add x y n T0 k G0 = sp_put n n tl_no 5 n T0 k G0 from (by unfold sp_add; (repeat' split) <;> first | rfl | (exfalso; omega))]; exact w60), by rw [ht]; exact hP, va_K.moved hW.alike hK, hD⟩, hS.F ht⟩) hS.2.2 dX0_add_63
  by_cases hs1_2 : x.toInt = 2
  · skip
    refine lv_tableIn (off := 63) (tgt := 64) hx hb dX0_add_1 (by omega) (by omega) (by rw [sw1, hs1_2]; first | done | rfl) rfl ?_
    refine lv_aload_n hx hb dX0_add_64 rfl (lv_at hl 0 rfl) ?_
    refine lv_aload_n hx hb dX0_add_65 rfl (lv_at hl 0 rfl) ?_
    refine va_get (D := (dC, dI)) (ci := 0) (v := .int (nI n)) (C := RX0) (T := TX0) (N := 4) hx hb hts hinX0 hown hK hP 0 rfl rfl 2 (by decide) (hts _ (List.mem_cons_of_mem _ k39)) (fun _ h9 => h9) rfl dX0_add_66 ?_
    refine lv_aload_n hx hb dX0_add_69 rfl (lv_at hl 0 rfl) ?_
    refine va_get (D := (dC, dI)) (ci := 0) (v := .int (nI n)) (C := RX0) (T := TX0) (N := 4) hx hb hts hinX0 hown hK hP 0 rfl rfl 2 (by decide) (hts _ (List.mem_cons_of_mem _ k39)) (fun _ h9 => h9) rfl dX0_add_70 ?_
    have hPc := hP.sub (ws' := [(h0, .inr (0, [.ref q0, .ref q1, .int (nI n), .int (nI k)])), (q0, .inl (cA, 3000, .inl T)), (q1, .inl (cB, 40, .inl G))]) [0, 1, 2] rfl
    have hDc := hD.sub (ws' := [(h0, .inr (0, [.ref q0, .ref q1, .int (nI n), .int (nI k)])), (q0, .inl (cA, 3000, .inl T)), (q1, .inl (cB, 40, .inl G))]) [0, 1, 2] (by decide) rfl
    have hKc := hK
    have hFc := va_free (wc := [(h0, .inr (0, [.ref q0, .ref q1, .int (nI n), .int (nI k)])), (q0, .inl (cA, 3000, .inl T)), (q1, .inl (cB, 40, .inl G))]) hD hS hA [0, 1, 2] rfl
    refine va_calli (va_runV (As := [.int (nI n), .int (nI n)]) (rest := []) ⟨hx, hb, hml, hown, hts⟩ (c_X_putScrap l dC dI h0 q0 q1 s.heap.size n k cA cB T G T0 G0 hT hG hn hk n n (by omega) (by omega)) (cwV 2 hts (gV_ (fun w h => List.mem_cons_of_mem _ h) k145 k147 k4 k21 k148) rfl rfl rfl (by decide +kernel) ⟨Nat.le_of_ble_eq_true rfl, Nat.le_of_ble_eq_true rfl⟩) ⟨fun a U g mk q => by obtain ⟨q0, q1, qP, qK, qD⟩ := q; exact ⟨q0, q1, qP, va_K.moved (u := U) (U := U.calling g mk a) (Vm.Alike.refl U.vm) qK, qD⟩, va_recv hKc hPc (ci := 0) (q0 := 0) rfl rfl, fun U hU hW => ⟨rfl, by rw [hU], by rw [hU]; exact hPc, va_K.moved hW.alike hKc, hDc.weaken (fun _ _ _ _ => trivial)⟩⟩ rfl rfl hl.1 rfl (lv_room (Nat.le_of_ble_eq_true rfl)) dX0_add_73 ⟨Nat.le_of_ble_eq_true rfl, Nat.le_of_ble_eq_true rfl⟩) hS (fun q _ h => hFc q h) hFc (fun r73 u73 t H locs ht hvm w73 hB hz1 hk1 hS => ?_)
    try dsimp only at w73
    obtain ⟨n2, T2, k2, G2⟩ := u73
    obtain ⟨hP1, hK1, hD1⟩ := hB
    rw [ht] at hP1
    obtain ⟨hP, hD⟩ := va_join (wr := []) (w1 := [(h0, .inr (0, [.ref q0, .ref q1, .int (nI n2), .int (nI k2)])), (q0, .inl (cA, 3000, .inl T2)), (q1, .inl (cB, 40, .inl G2))]) hP hD [0, 1, 2] [] rfl rfl (by decide) (by decide) hk1 hFc hP1 hD1
    have hP : va_P (dC, dI) vwCl [(h0, .inr (0, [.ref q0, .ref q1, .int (nI n2), .int (nI k2)])), (q0, .inl (cA, 3000, .inl T2)), (q1, .inl (cB, 40, .inl G2))] H := hP
    have hD : va_D A [(h0, .inr (0, [.ref q0, .ref q1, .int (nI n2), .int (nI k2)])), (q0, .inl (cA, 3000, .inl T2)), (q1, .inl (cB, 40, .inl G2))] := hD
    subst hQ
    exact W.iret (v := r73) hx hb hr (fun t ht hW => ⟨⟨r73, (n2, T2, k2, G2), rfl, (by rw [show sp_add x y n T0 k G0 = sp_put n n G0 k n T0 k G0 from (by unfold sp_add; (repeat' split) <;> first | rfl | (exfalso; omega))]; exact w73), by rw [ht]; exact hP, va_K.moved hW.alike hK, hD⟩, hS.F ht⟩) hS.2.2 dX0_add_76
  by_cases hs1_3 : x.toInt = 3
  · skip
    refine lv_tableIn (off := 76) (tgt := 77) hx hb dX0_add_1 (by omega) (by omega) (by rw [sw1, hs1_3]; first | done | rfl) rfl ?_
    refine lv_lload_n hx hb dX0_add_77 rfl (lv_at hl 2 rfl) ?_
    refine vp_callSi ((va_runS (As := [.long y]) (rest := []) ⟨hx, hb, hml, hown, hts⟩ (c_X_isSign l y) (va_cwS 1 hts (gS_ (fun w h => List.mem_cons_of_mem _ h) k55 k56 k21 k57) rfl rfl rfl (by decide +kernel) ⟨Nat.le_of_ble_eq_true rfl, Nat.le_of_ble_eq_true rfl⟩) ⟨fun a U g mk q => q, fun U hU hW => ⟨rfl, trivial⟩⟩ rfl rfl hl.1 rfl (lv_room (Nat.le_of_ble_eq_true rfl)) dX0_add_78 ⟨Nat.le_of_ble_eq_true rfl, Nat.le_of_ble_eq_true rfl⟩).run) (fun r78 w78 => ?_)
    try dsimp only at w78
    refine lv_if_eq (tgt := 97) hx hb dX0_add_81 rfl (fun h81 => ?_) (fun h81 => ?_)
    · skip
      have h81 := (tl_b0 w78).mp h81
      refine lv_iconst (v := (-1 : Int32)) hx hb dX0_add_97 (by decide) ?_
      subst hQ
      exact W.iret (v := (-1 : Int32)) hx hb hr (fun t ht hW => ⟨⟨(-1 : Int32), (n, T, k, G), rfl, (by rw [(show sp_add x y n T0 k G0 = ((-1 : Int32), (n, T0, k, G0)) from (by unfold sp_add; (repeat' split) <;> first | rfl | (exfalso; omega)))]; exact ⟨rfl, tE_mk hT hG hn hk⟩), by rw [ht]; exact hP, va_K.moved hW.alike hK, hD⟩, hS.F ht⟩) hS.2.2 dX0_add_98
    · skip
      have h81 := (tl_b1 w78).mp h81
      refine lv_aload_n hx hb dX0_add_84 rfl (lv_at hl 0 rfl) ?_
      refine lv_aload_n hx hb dX0_add_85 rfl (lv_at hl 0 rfl) ?_
      refine va_get (D := (dC, dI)) (ci := 0) (v := .int (nI n)) (C := RX0) (T := TX0) (N := 4) hx hb hts hinX0 hown hK hP 0 rfl rfl 2 (by decide) (hts _ (List.mem_cons_of_mem _ k39)) (fun _ h9 => h9) rfl dX0_add_86 ?_
      refine lv_lload_n hx hb dX0_add_89 rfl (lv_at hl 2 rfl) ?_
      refine lv_l2i hx hb dX0_add_90 rfl ?_
      have hPc := hP.sub (ws' := [(h0, .inr (0, [.ref q0, .ref q1, .int (nI n), .int (nI k)])), (q0, .inl (cA, 3000, .inl T)), (q1, .inl (cB, 40, .inl G))]) [0, 1, 2] rfl
      have hDc := hD.sub (ws' := [(h0, .inr (0, [.ref q0, .ref q1, .int (nI n), .int (nI k)])), (q0, .inl (cA, 3000, .inl T)), (q1, .inl (cB, 40, .inl G))]) [0, 1, 2] (by decide) rfl
      have hKc := hK
      have hFc := va_free (wc := [(h0, .inr (0, [.ref q0, .ref q1, .int (nI n), .int (nI k)])), (q0, .inl (cA, 3000, .inl T)), (q1, .inl (cB, 40, .inl G))]) hD hS hA [0, 1, 2] rfl
      refine va_calli (va_runV (As := [.int (nI n), .int y.toInt32]) (rest := []) ⟨hx, hb, hml, hown, hts⟩ (c_X_putSign l dC dI h0 q0 q1 s.heap.size n k cA cB T G T0 G0 hT hG hn hk n y.toInt32 (by omega)) (cwV 2 hts (gV_ (fun w h => List.mem_cons_of_mem _ h) k149 k151 k5 k21 k152) rfl rfl rfl (by decide +kernel) ⟨Nat.le_of_ble_eq_true rfl, Nat.le_of_ble_eq_true rfl⟩) ⟨fun a U g mk q => by obtain ⟨q0, q1, qP, qK, qD⟩ := q; exact ⟨q0, q1, qP, va_K.moved (u := U) (U := U.calling g mk a) (Vm.Alike.refl U.vm) qK, qD⟩, va_recv hKc hPc (ci := 0) (q0 := 0) rfl rfl, fun U hU hW => ⟨rfl, by rw [hU], by rw [hU]; exact hPc, va_K.moved hW.alike hKc, hDc.weaken (fun _ _ _ _ => trivial)⟩⟩ rfl rfl hl.1 rfl (lv_room (Nat.le_of_ble_eq_true rfl)) dX0_add_91 ⟨Nat.le_of_ble_eq_true rfl, Nat.le_of_ble_eq_true rfl⟩) hS (fun q _ h => hFc q h) hFc (fun r91 u91 t H locs ht hvm w91 hB hz1 hk1 hS => ?_)
      try dsimp only at w91
      obtain ⟨n2, T2, k2, G2⟩ := u91
      obtain ⟨hP1, hK1, hD1⟩ := hB
      rw [ht] at hP1
      obtain ⟨hP, hD⟩ := va_join (wr := []) (w1 := [(h0, .inr (0, [.ref q0, .ref q1, .int (nI n2), .int (nI k2)])), (q0, .inl (cA, 3000, .inl T2)), (q1, .inl (cB, 40, .inl G2))]) hP hD [0, 1, 2] [] rfl rfl (by decide) (by decide) hk1 hFc hP1 hD1
      have hP : va_P (dC, dI) vwCl [(h0, .inr (0, [.ref q0, .ref q1, .int (nI n2), .int (nI k2)])), (q0, .inl (cA, 3000, .inl T2)), (q1, .inl (cB, 40, .inl G2))] H := hP
      have hD : va_D A [(h0, .inr (0, [.ref q0, .ref q1, .int (nI n2), .int (nI k2)])), (q0, .inl (cA, 3000, .inl T2)), (q1, .inl (cB, 40, .inl G2))] := hD
      refine lv_goto (tgt := 98) hx hb dX0_add_94 rfl ?_
      subst hQ
      exact W.iret (v := r91) hx hb hr (fun t ht hW => ⟨⟨r91, (n2, T2, k2, G2), rfl, (by rw [show sp_add x y n T0 k G0 = sp_put n n (fun _ => y.toInt32) 1 n T0 k G0 from (by unfold sp_add; (repeat' split) <;> first | rfl | (exfalso; omega))]; exact w91), by rw [ht]; exact hP, va_K.moved hW.alike hK, hD⟩, hS.F ht⟩) hS.2.2 dX0_add_98
  refine lv_tableOut (tgt := 99) hx hb dX0_add_1 (by omega) rfl ?_
  refine lv_iconst (v := (-1 : Int32)) hx hb dX0_add_99 (by decide) ?_
  subst hQ
  exact W.iret (v := (-1 : Int32)) hx hb hr (fun t ht hW => ⟨⟨(-1 : Int32), (n, T, k, G), rfl, (by rw [(show sp_add x y n T0 k G0 = ((-1 : Int32), (n, T0, k, G0)) from (by unfold sp_add; (repeat' split) <;> first | rfl | (exfalso; omega)))]; exact ⟨rfl, tE_mk hT hG hn hk⟩), by rw [ht]; exact hP, va_K.moved hW.alike hK, hD⟩, hS.F ht⟩) hS.2.2 dX0_add_100
set_option maxHeartbeats 4000000 in
set_option maxRecDepth 100000 in
theorem c_X_init (l : Launch) (dC : Nat → ClassId) (dI : Nat → Nat → Nat) (h0 sz : Nat) : Met l yX0_init wsX0_init ({ frames := 1, cells := 2, slots := 3040, locals := 12 } : Room) (va_Pc [.ref h0] (fun U => U.heap.size = sz ∧ va_P (dC, dI) vwCl [(h0, .inr (0, [.null, .null, .int 0, .int 0]))] U.heap ∧ va_K (dC, dI) vwCl [] U ∧ va_D (fun _ => True) [(h0, .inr (0, [.null, .null, .int 0, .int 0]))])) (va_Qv (fun (u : tS) => u = (0, (fun _ => 0), 0, (fun _ => 0))) (fun u t => ∃ (q0 q1 : Nat) (cA cB : ClassId), at_X dC dI (va_A [(h0, .inr (0, [.null, .null, .int 0, .int 0]))] sz) h0 q0 q1 cA cB u t) (va_A [(h0, .inr (0, [.null, .null, .int 0, .int 0]))] sz)) 2 3040 (va_A [(h0, .inr (0, [.null, .null, .int 0, .int 0]))] sz) := by
  refine Met.ofW (cc := cX0_init) (maxL := 1) (ret := none) (by decide) rfl ?_
  intro p e s m args below meth c s₁ B hml hv
  obtain ⟨rfl, hsz, hP, hK, hD0⟩ := hv
  have hx := B.exec
  have hb := B.bytes
  have hr := B.returns
  have hts := atoms_spec (ws := wsX0_init) B.pre
  have hown : s.vm.findClass RX0 = some m.cls := findClass_of_methodNamed B.named
  have hlocks := B.notSynchronized
  have hin : meth.name = "<init>" := (name_of_methodNamed B.named B.method).1
  subst hsz
  have hD := hD0.self (sz := s.heap.size)
  generalize hAe : va_A [(h0, .inr (0, [.null, .null, .int 0, .int 0]))] s.heap.size = A at hD ⊢
  have hA : ∀ q : Nat, s.heap.size ≤ q → A q := fun q h => by rw [← hAe]; exact Or.inr h
  have hS : va_S A s.heap s.heap [] := va_S.rf
  have hP : va_P (dC, dI) vwCl [(h0, .inr (0, [.null, .null, .int 0, .int 0]))] s.heap := hP
  have hinX0 : ∀ w ∈ u_ws RX0 TX0 4, w ∈ wsX0_init := fun w h => List.mem_cons_of_mem _ (inX0 w h)
  have hl := lv_entry ([.ref h0]) (n := 1) (Nat.le_of_ble_eq_true rfl)
  rw [lg_entry_eq]
  generalize (lg_sl ([.ref h0]) ++ List.replicate (1 - (lg_sl ([.ref h0])).length) Slot.unset).toArray = ls at hl ⊢
  have hl : lv_has ls 1 [(0, .ref h0)] := hl
  refine tl_q (fun Q hQ => ?_)
  refine lv_aload_n hx hb dX0_init_0 rfl (lv_at hl 0 rfl) ?_
  refine W.objInit hx hb hown (hts _ (List.mem_cons_of_mem _ k34)) (hts _ (List.mem_cons_of_mem _ k35)) (hts _ (List.mem_cons_of_mem _ k36)) rfl (by rw [hml]; exact hl.1) rfl dX0_init_1 (Nat.le_of_ble_eq_true rfl) (Nat.le_of_ble_eq_true rfl) ?_
  refine W.eq (g2 := F0 m 4 ls []) rfl ?_
  refine lv_aload_n hx hb dX0_init_4 rfl (lv_at hl 0 rfl) ?_
  refine lv_sipush (v := nI 3000) hx hb dX0_init_5 (by decide) ?_
  refine va_newa (atype := .int) (N' := 3000) (a0 := (3000, .inl (fun _ => 0))) (ty := .int) (n := nI 3000) hx hb (hts _ (List.mem_cons_of_mem _ k50)) rfl hK hP hD hS hA (fun _ => rfl) (by decide) (by decide) (by decide) (Nat.le_of_ble_eq_true rfl) (Nat.le_of_ble_eq_true rfl) dX0_init_8 (fun q0 cA H hK hP hD hS => ?_)
  have hP : va_P (dC, dI) vwCl [(h0, .inr (0, [.null, .null, .int 0, .int 0])), (q0, .inl (cA, 3000, .inl ((fun _ => 0))))] H := hP
  have hD : va_D A [(h0, .inr (0, [.null, .null, .int 0, .int 0])), (q0, .inl (cA, 3000, .inl ((fun _ => 0))))] := hD
  have hK : va_K (dC, dI) vwCl [(cA, .int)] s := hK
  refine W.widen (k := 1) (n := 3000) (by omega) (by omega) ?_
  refine va_putF (D := (dC, dI)) (ci := 0) (v := .ref q0) (ty := (.array .int)) (C := RX0) (T := TX0) (N := 4) hx hb hts hinX0 tyX0 tyX0_ok nmX0 hown hK hP hD hS 0 rfl rfl 0 (by decide) (hts _ (List.mem_cons_of_mem _ k37)) (fun _ h9 => h9) rfl hin rfl (by decide +kernel) rfl rfl (Nat.le_of_ble_eq_true rfl) dX0_init_10 (fun H locs hP hD hS => ?_)
  have hP : va_P (dC, dI) vwCl [(h0, .inr (0, [.ref q0, .null, .int 0, .int 0])), (q0, .inl (cA, 3000, .inl ((fun _ => 0))))] H := hP
  have hD : va_D A [(h0, .inr (0, [.ref q0, .null, .int 0, .int 0])), (q0, .inl (cA, 3000, .inl ((fun _ => 0))))] := hD
  refine lv_aload_n hx hb dX0_init_13 rfl (lv_at hl 0 rfl) ?_
  refine lv_bipush (v := nI 40) hx hb dX0_init_14 (by decide) ?_
  refine va_newa (atype := .int) (N' := 40) (a0 := (40, .inl (fun _ => 0))) (ty := .int) (n := nI 40) hx hb (hts _ (List.mem_cons_of_mem _ k50)) rfl hK hP hD hS hA (fun _ => rfl) (by decide) (by decide) (by decide) (Nat.le_of_ble_eq_true rfl) (Nat.le_of_ble_eq_true rfl) dX0_init_16 (fun q1 cB H hK hP hD hS => ?_)
  have hP : va_P (dC, dI) vwCl [(h0, .inr (0, [.ref q0, .null, .int 0, .int 0])), (q0, .inl (cA, 3000, .inl ((fun _ => 0)))), (q1, .inl (cB, 40, .inl ((fun _ => 0))))] H := hP
  have hD : va_D A [(h0, .inr (0, [.ref q0, .null, .int 0, .int 0])), (q0, .inl (cA, 3000, .inl ((fun _ => 0)))), (q1, .inl (cB, 40, .inl ((fun _ => 0))))] := hD
  have hK : va_K (dC, dI) vwCl [(cA, .int), (cB, .int)] s := hK
  refine W.widen (k := 2) (n := 3040) (by omega) (by omega) ?_
  refine va_putF (D := (dC, dI)) (ci := 0) (v := .ref q1) (ty := (.array .int)) (C := RX0) (T := TX0) (N := 4) hx hb hts hinX0 tyX0 tyX0_ok nmX0 hown hK hP hD hS 0 rfl rfl 1 (by decide) (hts _ (List.mem_cons_of_mem _ k38)) (fun _ h9 => h9) rfl hin rfl (by decide +kernel) rfl rfl (Nat.le_of_ble_eq_true rfl) dX0_init_18 (fun H locs hP hD hS => ?_)
  have hP : va_P (dC, dI) vwCl [(h0, .inr (0, [.ref q0, .ref q1, .int 0, .int 0])), (q0, .inl (cA, 3000, .inl ((fun _ => 0)))), (q1, .inl (cB, 40, .inl ((fun _ => 0))))] H := hP
  have hD : va_D A [(h0, .inr (0, [.ref q0, .ref q1, .int 0, .int 0])), (q0, .inl (cA, 3000, .inl ((fun _ => 0)))), (q1, .inl (cB, 40, .inl ((fun _ => 0))))] := hD
  refine lv_aload_n hx hb dX0_init_21 rfl (lv_at hl 0 rfl) ?_
  refine lv_iconst (v := nI 0) hx hb dX0_init_22 (by decide) ?_
  refine va_put (D := (dC, dI)) (ci := 0) (v := .int (nI 0)) (ty := .int) (C := RX0) (T := TX0) (N := 4) hx hb hts hinX0 tyX0 tyX0_ok nmX0 hown hK hP hD hS 0 rfl rfl 2 (by decide) (hts _ (List.mem_cons_of_mem _ k39)) (fun _ h9 => h9) rfl (by decide +kernel) rfl rfl (Nat.le_of_ble_eq_true rfl) dX0_init_23 (fun H locs hP hD hS => ?_)
  have hP : va_P (dC, dI) vwCl [(h0, .inr (0, [.ref q0, .ref q1, .int (nI 0), .int 0])), (q0, .inl (cA, 3000, .inl ((fun _ => 0)))), (q1, .inl (cB, 40, .inl ((fun _ => 0))))] H := hP
  have hD : va_D A [(h0, .inr (0, [.ref q0, .ref q1, .int (nI 0), .int 0])), (q0, .inl (cA, 3000, .inl ((fun _ => 0)))), (q1, .inl (cB, 40, .inl ((fun _ => 0))))] := hD
  refine lv_aload_n hx hb dX0_init_26 rfl (lv_at hl 0 rfl) ?_
  refine lv_iconst (v := nI 0) hx hb dX0_init_27 (by decide) ?_
  refine va_put (D := (dC, dI)) (ci := 0) (v := .int (nI 0)) (ty := .int) (C := RX0) (T := TX0) (N := 4) hx hb hts hinX0 tyX0 tyX0_ok nmX0 hown hK hP hD hS 0 rfl rfl 3 (by decide) (hts _ (List.mem_cons_of_mem _ k40)) (fun _ h9 => h9) rfl (by decide +kernel) rfl rfl (Nat.le_of_ble_eq_true rfl) dX0_init_28 (fun H locs hP hD hS => ?_)
  have hP : va_P (dC, dI) vwCl [(h0, .inr (0, [.ref q0, .ref q1, .int (nI 0), .int (nI 0)])), (q0, .inl (cA, 3000, .inl ((fun _ => 0)))), (q1, .inl (cB, 40, .inl ((fun _ => 0))))] H := hP
  have hD : va_D A [(h0, .inr (0, [.ref q0, .ref q1, .int (nI 0), .int (nI 0)])), (q0, .inl (cA, 3000, .inl ((fun _ => 0)))), (q1, .inl (cB, 40, .inl ((fun _ => 0))))] := hD
  subst hQ
  exact W.vret hx hb hr (fun t ht hW => ⟨⟨(0, (fun _ => 0), 0, (fun _ => 0)), rfl, rfl, q0, q1, cA, cB, by rw [ht]; exact hP, va_K.moved hW.alike hK, hD⟩, hS.F ht⟩) hS.2.2 dX0_init_31
end
section
set_option maxHeartbeats 4000000 in
set_option maxRecDepth 100000 in
theorem c_M_isSign (l : Launch) (x : Int64) : Met l yX1_isSign wsX1_isSign ({ frames := 0, cells := 0, slots := 0, locals := 0 } : Room) (va_Pc [.long x] (fun _ => True)) (vp_Si (fun r : Int32 => (r = 1 ∧ (0 ≤ x.toInt ∧ x.toInt ≤ 65535 ∧ (x.toInt < 55296 ∨ 57343 < x.toInt))) ∨ (r = 0 ∧ ¬ (0 ≤ x.toInt ∧ x.toInt ≤ 65535 ∧ (x.toInt < 55296 ∨ 57343 < x.toInt))))) 0 0 (fun _ => False) := by
  refine Met.ofW (cc := cX1_isSign) (maxL := 2) (ret := (some .boolean)) (by decide) rfl ?_
  intro p e s m args below meth c s₁ B hml hv
  obtain ⟨rfl, -⟩ := hv
  have hx := B.exec
  have hb := B.bytes
  have hr := B.returns
  have hts := atoms_spec (ws := wsX1_isSign) B.pre
  have hown : s.vm.findClass RX1 = some m.cls := findClass_of_methodNamed B.named
  have hlocks := B.notSynchronized
  have hl := lv_entry ([.long x]) (n := 2) (Nat.le_of_ble_eq_true rfl)
  rw [lg_entry_eq]
  generalize (lg_sl ([.long x]) ++ List.replicate (2 - (lg_sl ([.long x])).length) Slot.unset).toArray = ls at hl ⊢
  have hl : lv_has ls 2 [(0, .long x)] := hl
  refine tl_q (fun Q hQ => ?_)
  refine lv_lload_n hx hb dX1_isSign_0 rfl (lv_at hl 0 rfl) ?_
  refine lv_lconst (v := (0 : Int64)) hx hb dX1_isSign_1 (by decide) ?_
  refine W.lcmp hx hb dX1_isSign_2 ?_
  refine lv_if_lt (tgt := 34) hx hb dX1_isSign_3 rfl (fun h3 => ?_) (fun h3 => ?_)
  · skip
    have h3 := (tl_llt (show x.toInt = x.toInt from rfl) (show ((0 : Int64)).toInt = (0 : Int) from (by decide))).mp h3
    refine lv_iconst (v := nI 0) hx hb dX1_isSign_34 (by decide) ?_
    subst hQ
    exact W.zret (v := nI 0) hx hb hr (by decide) (fun t ht hW => ⟨nI 0, rfl, (Or.inr ⟨by decide, by omega⟩), ht⟩) (fun q h => absurd h List.not_mem_nil) dX1_isSign_35
  · skip
    have h3 := (not_congr (tl_llt (show x.toInt = x.toInt from rfl) (show ((0 : Int64)).toInt = (0 : Int) from (by decide)))).mp h3
    refine lv_lload_n hx hb dX1_isSign_6 rfl (lv_at hl 0 rfl) ?_
    refine lv_ldc2 (v := (65535 : Int64)) hx hb hown (hts _ (List.mem_cons_of_mem _ k271)) dX1_isSign_7 ?_
    refine W.lcmp hx hb dX1_isSign_10 ?_
    refine lv_if_gt (tgt := 34) hx hb dX1_isSign_11 rfl (fun h11 => ?_) (fun h11 => ?_)
    · skip
      have h11 := (tl_lgt (show x.toInt = x.toInt from rfl) (show ((65535 : Int64)).toInt = (65535 : Int) from (by decide))).mp h11
      refine lv_iconst (v := nI 0) hx hb dX1_isSign_34 (by decide) ?_
      subst hQ
      exact W.zret (v := nI 0) hx hb hr (by decide) (fun t ht hW => ⟨nI 0, rfl, (Or.inr ⟨by decide, by omega⟩), ht⟩) (fun q h => absurd h List.not_mem_nil) dX1_isSign_35
    · skip
      have h11 := (not_congr (tl_lgt (show x.toInt = x.toInt from rfl) (show ((65535 : Int64)).toInt = (65535 : Int) from (by decide)))).mp h11
      refine lv_lload_n hx hb dX1_isSign_14 rfl (lv_at hl 0 rfl) ?_
      refine lv_ldc2 (v := (55296 : Int64)) hx hb hown (hts _ (List.mem_cons_of_mem _ k272)) dX1_isSign_15 ?_
      refine W.lcmp hx hb dX1_isSign_18 ?_
      refine lv_if_lt (tgt := 30) hx hb dX1_isSign_19 rfl (fun h19 => ?_) (fun h19 => ?_)
      · skip
        have h19 := (tl_llt (show x.toInt = x.toInt from rfl) (show ((55296 : Int64)).toInt = (55296 : Int) from (by decide))).mp h19
        refine lv_iconst (v := nI 1) hx hb dX1_isSign_30 (by decide) ?_
        refine lv_goto (tgt := 35) hx hb dX1_isSign_31 rfl ?_
        subst hQ
        exact W.zret (v := nI 1) hx hb hr (by decide) (fun t ht hW => ⟨nI 1, rfl, (Or.inl ⟨by decide, by omega⟩), ht⟩) (fun q h => absurd h List.not_mem_nil) dX1_isSign_35
      · skip
        have h19 := (not_congr (tl_llt (show x.toInt = x.toInt from rfl) (show ((55296 : Int64)).toInt = (55296 : Int) from (by decide)))).mp h19
        refine lv_lload_n hx hb dX1_isSign_22 rfl (lv_at hl 0 rfl) ?_
        refine lv_ldc2 (v := (57343 : Int64)) hx hb hown (hts _ (List.mem_cons_of_mem _ k273)) dX1_isSign_23 ?_
        refine W.lcmp hx hb dX1_isSign_26 ?_
        refine lv_if_le (tgt := 34) hx hb dX1_isSign_27 rfl (fun h27 => ?_) (fun h27 => ?_)
        · skip
          have h27 := (tl_lle (show x.toInt = x.toInt from rfl) (show ((57343 : Int64)).toInt = (57343 : Int) from (by decide))).mp h27
          refine lv_iconst (v := nI 0) hx hb dX1_isSign_34 (by decide) ?_
          subst hQ
          exact W.zret (v := nI 0) hx hb hr (by decide) (fun t ht hW => ⟨nI 0, rfl, (Or.inr ⟨by decide, by omega⟩), ht⟩) (fun q h => absurd h List.not_mem_nil) dX1_isSign_35
        · skip
          have h27 := (not_congr (tl_lle (show x.toInt = x.toInt from rfl) (show ((57343 : Int64)).toInt = (57343 : Int) from (by decide)))).mp h27
          refine lv_iconst (v := nI 1) hx hb dX1_isSign_30 (by decide) ?_
          refine lv_goto (tgt := 35) hx hb dX1_isSign_31 rfl ?_
          subst hQ
          exact W.zret (v := nI 1) hx hb hr (by decide) (fun t ht hW => ⟨nI 1, rfl, (Or.inl ⟨by decide, by omega⟩), ht⟩) (fun q h => absurd h List.not_mem_nil) dX1_isSign_35
set_option maxHeartbeats 4000000 in
set_option maxRecDepth 100000 in
theorem c_M_full (l : Launch) (dC : Nat → ClassId) (dI : Nat → Nat → Nat) (h0 q0 q1 q2 n k : Nat) (cA cB cC : ClassId) (T G T0 G0 : Nat → Int32) (hT : ∀ j, j < n → T j = T0 j) (hG : ∀ j, j < k → G j = G0 j) (hn : n ≤ 3000) (hk : k ≤ 40) (E : Nat → Int32) (d : Int32) (x : Int32) (hx1 : 0 ≤ x.toInt) (hx2 : x.toInt ≤ 3000) : Met l yX1_full wsX1_full ({ frames := 0, cells := 0, slots := 0, locals := 0 } : Room) (va_Pc [.ref h0, .int x] (fun U => va_P (dC, dI) vwCl [(h0, .inr (1, [.ref q0, .ref q1, .ref q2, .int (nI n), .int (nI k), .int d])), (q0, .inl (cA, 3000, .inl T)), (q1, .inl (cB, 40, .inl G)), (q2, .inl (cC, 20, .inl E))] U.heap ∧ va_K (dC, dI) vwCl [(cA, .int), (cB, .int), (cC, .int)] U)) (vp_Si (fun r : Int32 => (r = 1 ∧ (3000 < (n : Int) + x.toInt)) ∨ (r = 0 ∧ ¬ (3000 < (n : Int) + x.toInt)))) 0 0 (fun _ => False) := by
  refine Met.ofW (cc := cX1_full) (maxL := 2) (ret := (some .boolean)) (by decide) rfl ?_
  intro p e s m args below meth c s₁ B hml hv
  obtain ⟨rfl, hP, hK⟩ := hv
  have hx := B.exec
  have hb := B.bytes
  have hr := B.returns
  have hts := atoms_spec (ws := wsX1_full) B.pre
  have hown : s.vm.findClass RX1 = some m.cls := findClass_of_methodNamed B.named
  have hlocks := B.notSynchronized
  have hP : va_P (dC, dI) vwCl [(h0, .inr (1, [.ref q0, .ref q1, .ref q2, .int (nI n), .int (nI k), .int d])), (q0, .inl (cA, 3000, .inl T)), (q1, .inl (cB, 40, .inl G)), (q2, .inl (cC, 20, .inl E))] s.heap := hP
  have hinX1 : ∀ w ∈ u_ws RX1 TX1 6, w ∈ wsX1_full := fun w h => List.mem_cons_of_mem _ (inX1 w h)
  have hl := lv_entry ([.ref h0, .int x]) (n := 2) (Nat.le_of_ble_eq_true rfl)
  rw [lg_entry_eq]
  generalize (lg_sl ([.ref h0, .int x]) ++ List.replicate (2 - (lg_sl ([.ref h0, .int x])).length) Slot.unset).toArray = ls at hl ⊢
  have hl : lv_has ls 2 [(0, .ref h0), (1, .int x)] := hl
  refine tl_q (fun Q hQ => ?_)
  refine lv_aload_n hx hb dX1_full_0 rfl (lv_at hl 0 rfl) ?_
  refine va_get (D := (dC, dI)) (ci := 1) (v := .int (nI n)) (C := RX1) (T := TX1) (N := 6) hx hb hts hinX1 hown hK hP 0 rfl rfl 3 (by decide) (hts _ (List.mem_cons_of_mem _ k248)) (fun _ h9 => h9) rfl dX1_full_1 ?_
  refine lv_iload_n hx hb dX1_full_4 rfl (lv_at hl 1 rfl) ?_
  refine lv_iadd hx hb dX1_full_5 ?_
  have e5 : ((nI n) + x).toInt = ((n : Nat) : Int) + x.toInt := tl_addv (nI_toInt (by omega)) rfl (by omega) (by omega)
  refine lv_sipush (v := nI 3000) hx hb dX1_full_6 (by decide) ?_
  refine lv_icmp_le (tgt := 16) hx hb dX1_full_9 rfl (fun h9 => ?_) (fun h9 => ?_)
  · skip
    have h9 := (tl_le (show ((nI n) + x).toInt = (((n : Nat) : Int) + x.toInt) from e5) (show (nI 3000).toInt = (3000 : Int) from (by decide))).mp h9
    refine lv_iconst (v := nI 0) hx hb dX1_full_16 (by decide) ?_
    subst hQ
    exact W.zret (v := nI 0) hx hb hr (by decide) (fun t ht hW => ⟨nI 0, rfl, (Or.inr ⟨by decide, by omega⟩), ht⟩) (fun q h => absurd h List.not_mem_nil) dX1_full_17
  · skip
    have h9 := (not_congr (tl_le (show ((nI n) + x).toInt = (((n : Nat) : Int) + x.toInt) from e5) (show (nI 3000).toInt = (3000 : Int) from (by decide)))).mp h9
    refine lv_iconst (v := nI 1) hx hb dX1_full_12 (by decide) ?_
    refine lv_goto (tgt := 17) hx hb dX1_full_13 rfl ?_
    subst hQ
    exact W.zret (v := nI 1) hx hb hr (by decide) (fun t ht hW => ⟨nI 1, rfl, (Or.inl ⟨by decide, by omega⟩), ht⟩) (fun q h => absurd h List.not_mem_nil) dX1_full_17
set_option maxHeartbeats 4000000 in
set_option maxRecDepth 100000 in
theorem c_M_digits (l : Launch) (dC : Nat → ClassId) (dI : Nat → Nat → Nat) (h0 q0 q1 q2 sz n k : Nat) (cA cB cC : ClassId) (T G T0 G0 : Nat → Int32) (hT : ∀ j, j < n → T j = T0 j) (hG : ∀ j, j < k → G j = G0 j) (hn : n ≤ 3000) (hk : k ≤ 40) (E : Nat → Int32) (d : Int32) (x : Int64) : Met l yX1_digits wsX1_digits ({ frames := 0, cells := 0, slots := 0, locals := 0 } : Room) (va_Pc [.ref h0, .long x] (fun U => U.heap.size = sz ∧ va_P (dC, dI) vwCl [(h0, .inr (1, [.ref q0, .ref q1, .ref q2, .int (nI n), .int (nI k), .int d])), (q0, .inl (cA, 3000, .inl T)), (q1, .inl (cB, 40, .inl G)), (q2, .inl (cC, 20, .inl E))] U.heap ∧ va_K (dC, dI) vwCl [(cA, .int), (cB, .int), (cC, .int)] U ∧ va_D (fun _ => True) [(h0, .inr (1, [.ref q0, .ref q1, .ref q2, .int (nI n), .int (nI k), .int d])), (q0, .inl (cA, 3000, .inl T)), (q1, .inl (cB, 40, .inl G)), (q2, .inl (cC, 20, .inl E))])) (va_Qv (fun (u : tM) => u.1 = (n, T, k, G) ∧ u.2.2 = nI (dg_m x) ∧ ∀ i, i < dg_m x → u.2.1 i = dg_w x (dg_m x - 1 - i)) (at_M dC dI (va_A [(h0, .inr (1, [.ref q0, .ref q1, .ref q2, .int (nI n), .int (nI k), .int d])), (q0, .inl (cA, 3000, .inl T)), (q1, .inl (cB, 40, .inl G)), (q2, .inl (cC, 20, .inl E))] sz) h0 q0 q1 q2 cA cB cC) (va_A [(h0, .inr (1, [.ref q0, .ref q1, .ref q2, .int (nI n), .int (nI k), .int d])), (q0, .inl (cA, 3000, .inl T)), (q1, .inl (cB, 40, .inl G)), (q2, .inl (cC, 20, .inl E))] sz)) 0 0 (va_A [(h0, .inr (1, [.ref q0, .ref q1, .ref q2, .int (nI n), .int (nI k), .int d])), (q0, .inl (cA, 3000, .inl T)), (q1, .inl (cB, 40, .inl G)), (q2, .inl (cC, 20, .inl E))] sz) := by
  refine Met.ofW (cc := cX1_digits) (maxL := 6) (ret := none) (by decide) rfl ?_
  intro p e s m args below meth c s₁ B hml hv
  obtain ⟨rfl, hsz, hP, hK, hD0⟩ := hv
  have hx := B.exec
  have hb := B.bytes
  have hr := B.returns
  have hts := atoms_spec (ws := wsX1_digits) B.pre
  have hown : s.vm.findClass RX1 = some m.cls := findClass_of_methodNamed B.named
  have hlocks := B.notSynchronized
  subst hsz
  have hD := hD0.self (sz := s.heap.size)
  generalize hAe : va_A [(h0, .inr (1, [.ref q0, .ref q1, .ref q2, .int (nI n), .int (nI k), .int d])), (q0, .inl (cA, 3000, .inl T)), (q1, .inl (cB, 40, .inl G)), (q2, .inl (cC, 20, .inl E))] s.heap.size = A at hD ⊢
  have hA : ∀ q : Nat, s.heap.size ≤ q → A q := fun q h => by rw [← hAe]; exact Or.inr h
  have hS : va_S A s.heap s.heap [] := va_S.rf
  have hP : va_P (dC, dI) vwCl [(h0, .inr (1, [.ref q0, .ref q1, .ref q2, .int (nI n), .int (nI k), .int d])), (q0, .inl (cA, 3000, .inl T)), (q1, .inl (cB, 40, .inl G)), (q2, .inl (cC, 20, .inl E))] s.heap := hP
  have hinX1 : ∀ w ∈ u_ws RX1 TX1 6, w ∈ wsX1_digits := fun w h => List.mem_cons_of_mem _ (inX1 w h)
  have hl := lv_entry ([.ref h0, .long x]) (n := 6) (Nat.le_of_ble_eq_true rfl)
  rw [lg_entry_eq]
  generalize (lg_sl ([.ref h0, .long x]) ++ List.replicate (6 - (lg_sl ([.ref h0, .long x])).length) Slot.unset).toArray = ls at hl ⊢
  have hl : lv_has ls 6 [(0, .ref h0), (1, .long x)] := hl
  refine tl_q (fun Q hQ => ?_)
  refine lv_aload_n hx hb dX1_digits_0 rfl (lv_at hl 0 rfl) ?_
  refine lv_iconst (v := nI 0) hx hb dX1_digits_1 (by decide) ?_
  refine va_put (D := (dC, dI)) (ci := 1) (v := .int (nI 0)) (ty := .int) (C := RX1) (T := TX1) (N := 6) hx hb hts hinX1 tyX1 tyX1_ok nmX1 hown hK hP hD hS 0 rfl rfl 5 (by decide) (hts _ (List.mem_cons_of_mem _ k250)) (fun _ h9 => h9) rfl (by decide +kernel) rfl rfl (Nat.le_of_ble_eq_true rfl) dX1_digits_2 (fun H locs hP hD hS => ?_)
  have hP : va_P (dC, dI) vwCl [(h0, .inr (1, [.ref q0, .ref q1, .ref q2, .int (nI n), .int (nI k), .int (nI 0)])), (q0, .inl (cA, 3000, .inl T)), (q1, .inl (cB, 40, .inl G)), (q2, .inl (cC, 20, .inl E))] H := hP
  have hD : va_D A [(h0, .inr (1, [.ref q0, .ref q1, .ref q2, .int (nI n), .int (nI k), .int (nI 0)])), (q0, .inl (cA, 3000, .inl T)), (q1, .inl (cB, 40, .inl G)), (q2, .inl (cC, 20, .inl E))] := hD
  refine lv_lload_n hx hb dX1_digits_5 rfl (lv_at hl 1 rfl) ?_
  refine lv_lstore_n (lv' := [(3, .long x), (0, .ref h0), (1, .long x)]) hx hb dX1_digits_6 rfl hl (by decide) rfl (fun ls hl => ?_)
  have LP7 : ∀ (fu : Nat) (cn : Nat) (y : Int64) (F : Nat → Int32) (H : Heap) (locs : List Loc) (ls : Array Slot), 19 - cn < fu → cn ≤ 18 → y.toInt.natAbs = x.toInt.natAbs / 10 ^ cn → cn = 0 ∨ 10 ^ cn ≤ x.toInt.natAbs → (∀ i, i < cn → F i = nI (48 + x.toInt.natAbs / 10 ^ i % 10)) → lv_has ls 6 [(0, .ref h0), (1, .long x), (3, .long y)] → va_P (dC, dI) vwCl [(h0, .inr (1, [.ref q0, .ref q1, .ref q2, .int (nI n), .int (nI k), .int (nI cn)])), (q0, .inl (cA, 3000, .inl T)), (q1, .inl (cB, 40, .inl G)), (q2, .inl (cC, 20, .inl F))] H → va_D A [(h0, .inr (1, [.ref q0, .ref q1, .ref q2, .int (nI n), .int (nI k), .int (nI cn)])), (q0, .inl (cA, 3000, .inl T)), (q1, .inl (cB, 40, .inl G)), (q2, .inl (cC, 20, .inl F))] → va_S A s.heap H locs → W p l e (headSpec wsX1_digits ({ frames := 0, cells := 0, slots := 0, locals := 0 } : Room)).room s m ([.ref h0, .long x] : List Value).toArray below meth c H locs 0 0 Q (F0 m 7 ls []) := by
    intro fu
    induction fu with
    | zero => intro cn y F H locs ls hfu; exact absurd hfu (Nat.not_lt_zero _)
    | succ fu ih =>
      intro cn y F H locs ls hfu hc hy hc2 hF hl hP hD hS
      refine lv_lload_n hx hb dX1_digits_7 rfl (lv_at hl 2 rfl) ?_
      refine lv_ldc2 (v := (10 : Int64)) hx hb hown (hts _ (List.mem_cons_of_mem _ k294)) dX1_digits_8 ?_
      refine lv_lrem hx hb dX1_digits_11 (by decide) ?_
      refine lv_l2i hx hb dX1_digits_12 rfl ?_
      refine lv_istore (lv' := [(5, .int ((y - y / ((10 : Int64)) * ((10 : Int64))).toInt32)), (0, .ref h0), (1, .long x), (3, .long y)]) hx hb dX1_digits_13 hl (by decide) rfl (fun ls hl => ?_)
      refine lv_aload_n hx hb dX1_digits_15 rfl (lv_at hl 1 rfl) ?_
      refine va_get (D := (dC, dI)) (ci := 1) (v := .ref q2) (C := RX1) (T := TX1) (N := 6) hx hb hts hinX1 hown hK hP 0 rfl rfl 2 (by decide) (hts _ (List.mem_cons_of_mem _ k247)) (fun _ h9 => h9) rfl dX1_digits_16 ?_
      refine lv_aload_n hx hb dX1_digits_19 rfl (lv_at hl 1 rfl) ?_
      refine lv_dup hx hb dX1_digits_20 rfl ?_
      refine va_get (D := (dC, dI)) (ci := 1) (v := .int (nI cn)) (C := RX1) (T := TX1) (N := 6) hx hb hts hinX1 hown hK hP 0 rfl rfl 5 (by decide) (hts _ (List.mem_cons_of_mem _ k250)) (fun _ h9 => h9) rfl dX1_digits_21 ?_
      refine lv_dup_x1 hx hb dX1_digits_24 rfl rfl ?_
      refine lv_iconst (v := nI 1) hx hb dX1_digits_25 (by decide) ?_
      refine lv_iadd hx hb dX1_digits_26 ?_
      refine tl_top (nI_add _ _) ?_
      refine va_put (D := (dC, dI)) (ci := 1) (v := .int (nI (cn + 1))) (ty := .int) (C := RX1) (T := TX1) (N := 6) hx hb hts hinX1 tyX1 tyX1_ok nmX1 hown hK hP hD hS 0 rfl rfl 5 (by decide) (hts _ (List.mem_cons_of_mem _ k250)) (fun _ h9 => h9) rfl (by decide +kernel) rfl rfl (Nat.le_of_ble_eq_true rfl) dX1_digits_27 (fun H locs hP hD hS => ?_)
      have hP : va_P (dC, dI) vwCl [(h0, .inr (1, [.ref q0, .ref q1, .ref q2, .int (nI n), .int (nI k), .int (nI (cn + 1))])), (q0, .inl (cA, 3000, .inl T)), (q1, .inl (cB, 40, .inl G)), (q2, .inl (cC, 20, .inl F))] H := hP
      have hD : va_D A [(h0, .inr (1, [.ref q0, .ref q1, .ref q2, .int (nI n), .int (nI k), .int (nI (cn + 1))])), (q0, .inl (cA, 3000, .inl T)), (q1, .inl (cB, 40, .inl G)), (q2, .inl (cC, 20, .inl F))] := hD
      refine lv_bipush (v := nI 48) hx hb dX1_digits_30 (by decide) ?_
      refine lv_iload hx hb dX1_digits_32 (lv_at hl 0 rfl) ?_
      refine lv_if_ge (tgt := 43) hx hb dX1_digits_34 rfl (fun h34 => ?_) (fun h34 => ?_)
      · skip
        have h34 := (tl_le (show (0 : Int32).toInt = (0 : Int) from Int32.toInt_zero) (show ((y - y / ((10 : Int64)) * ((10 : Int64))).toInt32).toInt = ((y - y / ((10 : Int64)) * ((10 : Int64))).toInt32).toInt from rfl)).mp h34
        refine lv_iload hx hb dX1_digits_43 (lv_at hl 0 rfl) ?_
        refine tl_top (y := nI (x.toInt.natAbs / 10 ^ cn % 10)) (by have q := dg_dig2 hy; rw [if_neg (by omega)] at q; exact q) ?_
        refine lv_iadd hx hb dX1_digits_45 ?_
        refine tl_top (nI_add _ _) ?_
        refine tl_iast hx hb hK hP hD hS 3 2 rfl rfl (by omega) (by decide) dX1_digits_46 (fun H locs hP hD hS => ?_)
        have hP : va_P (dC, dI) vwCl [(h0, .inr (1, [.ref q0, .ref q1, .ref q2, .int (nI n), .int (nI k), .int (nI (cn + 1))])), (q0, .inl (cA, 3000, .inl T)), (q1, .inl (cB, 40, .inl G)), (q2, .inl (cC, 20, .inl (upd F cn (nI (48 + (x.toInt.natAbs / 10 ^ cn % 10))))))] H := hP
        have hD : va_D A [(h0, .inr (1, [.ref q0, .ref q1, .ref q2, .int (nI n), .int (nI k), .int (nI (cn + 1))])), (q0, .inl (cA, 3000, .inl T)), (q1, .inl (cB, 40, .inl G)), (q2, .inl (cC, 20, .inl (upd F cn (nI (48 + (x.toInt.natAbs / 10 ^ cn % 10))))))] := hD
        refine lv_lload_n hx hb dX1_digits_47 rfl (lv_at hl 3 rfl) ?_
        refine lv_ldc2 (v := (10 : Int64)) hx hb hown (hts _ (List.mem_cons_of_mem _ k294)) dX1_digits_48 ?_
        refine lv_ldiv hx hb dX1_digits_51 (by decide) ?_
        refine lv_lstore_n (lv' := [(3, .long (y / ((10 : Int64)))), (5, .int ((y - y / ((10 : Int64)) * ((10 : Int64))).toInt32)), (0, .ref h0), (1, .long x)]) hx hb dX1_digits_52 rfl hl (by decide) rfl (fun ls hl => ?_)
        have hy5 : (y / (10 : Int64)).toInt.natAbs = x.toInt.natAbs / 10 ^ (cn + 1) := by rw [dg_div, hy, Nat.div_div_eq_div_mul, Nat.pow_succ]
        refine lv_lload_n hx hb dX1_digits_53 rfl (lv_at hl 0 rfl) ?_
        refine lv_lconst (v := (0 : Int64)) hx hb dX1_digits_54 (by decide) ?_
        refine W.lcmp hx hb dX1_digits_55 ?_
        refine lv_if_ne (tgt := 7) hx hb dX1_digits_56 rfl (fun h56 => ?_) (fun h56 => ?_)
        · skip
          have h56 := (not_congr (tl_leq (show (y / ((10 : Int64))).toInt = (y / ((10 : Int64))).toInt from rfl) (show ((0 : Int64)).toInt = (0 : Int) from (by decide)))).mp h56
          exact ih (cn + 1) (y / (10 : Int64)) (upd F cn (nI (48 + (x.toInt.natAbs / 10 ^ cn % 10)))) _ _ ls (by omega) (by exact dg_cap (x := x) (dg_more2 hy5 (by omega))) (hy5) (Or.inr (dg_more2 hy5 (by omega))) (pm_dgF hF) (lv_sub hl [2, 3, 0] rfl) hP hD hS
        · skip
          have h56 := (tl_leq (show (y / ((10 : Int64))).toInt = (y / ((10 : Int64))).toInt from rfl) (show ((0 : Int64)).toInt = (0 : Int) from (by decide))).mp h56
          have hcc : dg_c x.toInt.natAbs = cn + 1 := dg_c_uni (by omega) (by omega) (dg_less hy5 (by omega)) (by rcases hc2 with q | q; exact Or.inl (by omega); exact Or.inr q)
          refine lv_lload_n hx hb dX1_digits_59 rfl (lv_at hl 3 rfl) ?_
          refine lv_lconst (v := (0 : Int64)) hx hb dX1_digits_60 (by decide) ?_
          refine W.lcmp hx hb dX1_digits_61 ?_
          refine lv_if_ge (tgt := 83) hx hb dX1_digits_62 rfl (fun h62 => ?_) (fun h62 => ?_)
          · skip
            have h62 := (tl_lge (show x.toInt = x.toInt from rfl) (show ((0 : Int64)).toInt = (0 : Int) from (by decide))).mp h62
            subst hQ
            exact W.vret hx hb hr (fun t ht hW => ⟨⟨((n, T, k, G), upd F cn (nI (48 + (x.toInt.natAbs / 10 ^ cn % 10))), nI (cn + 1)), rfl, ⟨rfl, pm_dg_np h62 hcc, pm_dg_wp h62 hcc (pm_dgF hF)⟩, by rw [ht]; exact hP, va_K.moved hW.alike hK, hD⟩, hS.F ht⟩) hS.2.2 dX1_digits_83
          · skip
            have h62 := (not_congr (tl_lge (show x.toInt = x.toInt from rfl) (show ((0 : Int64)).toInt = (0 : Int) from (by decide)))).mp h62
            refine lv_aload_n hx hb dX1_digits_65 rfl (lv_at hl 2 rfl) ?_
            refine va_get (D := (dC, dI)) (ci := 1) (v := .ref q2) (C := RX1) (T := TX1) (N := 6) hx hb hts hinX1 hown hK hP 0 rfl rfl 2 (by decide) (hts _ (List.mem_cons_of_mem _ k247)) (fun _ h9 => h9) rfl dX1_digits_66 ?_
            refine lv_aload_n hx hb dX1_digits_69 rfl (lv_at hl 2 rfl) ?_
            refine lv_dup hx hb dX1_digits_70 rfl ?_
            refine va_get (D := (dC, dI)) (ci := 1) (v := .int (nI (cn + 1))) (C := RX1) (T := TX1) (N := 6) hx hb hts hinX1 hown hK hP 0 rfl rfl 5 (by decide) (hts _ (List.mem_cons_of_mem _ k250)) (fun _ h9 => h9) rfl dX1_digits_71 ?_
            refine lv_dup_x1 hx hb dX1_digits_74 rfl rfl ?_
            refine lv_iconst (v := nI 1) hx hb dX1_digits_75 (by decide) ?_
            refine lv_iadd hx hb dX1_digits_76 ?_
            refine tl_top (nI_add _ _) ?_
            refine va_put (D := (dC, dI)) (ci := 1) (v := .int (nI (cn + 1 + 1))) (ty := .int) (C := RX1) (T := TX1) (N := 6) hx hb hts hinX1 tyX1 tyX1_ok nmX1 hown hK hP hD hS 0 rfl rfl 5 (by decide) (hts _ (List.mem_cons_of_mem _ k250)) (fun _ h9 => h9) rfl (by decide +kernel) rfl rfl (Nat.le_of_ble_eq_true rfl) dX1_digits_77 (fun H locs hP hD hS => ?_)
            have hP : va_P (dC, dI) vwCl [(h0, .inr (1, [.ref q0, .ref q1, .ref q2, .int (nI n), .int (nI k), .int (nI (cn + 1 + 1))])), (q0, .inl (cA, 3000, .inl T)), (q1, .inl (cB, 40, .inl G)), (q2, .inl (cC, 20, .inl (upd F cn (nI (48 + (x.toInt.natAbs / 10 ^ cn % 10))))))] H := hP
            have hD : va_D A [(h0, .inr (1, [.ref q0, .ref q1, .ref q2, .int (nI n), .int (nI k), .int (nI (cn + 1 + 1))])), (q0, .inl (cA, 3000, .inl T)), (q1, .inl (cB, 40, .inl G)), (q2, .inl (cC, 20, .inl (upd F cn (nI (48 + (x.toInt.natAbs / 10 ^ cn % 10))))))] := hD
            refine lv_bipush (v := nI 45) hx hb dX1_digits_80 (by decide) ?_
            refine tl_iast hx hb hK hP hD hS 3 2 rfl rfl (by omega) (by decide) dX1_digits_82 (fun H locs hP hD hS => ?_)
            have hP : va_P (dC, dI) vwCl [(h0, .inr (1, [.ref q0, .ref q1, .ref q2, .int (nI n), .int (nI k), .int (nI (cn + 1 + 1))])), (q0, .inl (cA, 3000, .inl T)), (q1, .inl (cB, 40, .inl G)), (q2, .inl (cC, 20, .inl (upd (upd F cn (nI (48 + (x.toInt.natAbs / 10 ^ cn % 10)))) (cn + 1) (nI 45))))] H := hP
            have hD : va_D A [(h0, .inr (1, [.ref q0, .ref q1, .ref q2, .int (nI n), .int (nI k), .int (nI (cn + 1 + 1))])), (q0, .inl (cA, 3000, .inl T)), (q1, .inl (cB, 40, .inl G)), (q2, .inl (cC, 20, .inl (upd (upd F cn (nI (48 + (x.toInt.natAbs / 10 ^ cn % 10)))) (cn + 1) (nI 45))))] := hD
            subst hQ
            exact W.vret hx hb hr (fun t ht hW => ⟨⟨((n, T, k, G), upd (upd F cn (nI (48 + (x.toInt.natAbs / 10 ^ cn % 10)))) (cn + 1) (nI 45), nI (cn + 1 + 1)), rfl, ⟨rfl, pm_dg_nn h62 hcc, pm_dg_wn h62 hcc (pm_dgF hF)⟩, by rw [ht]; exact hP, va_K.moved hW.alike hK, hD⟩, hS.F ht⟩) hS.2.2 dX1_digits_83
      · skip
        have h34 := (not_congr (tl_le (show (0 : Int32).toInt = (0 : Int) from Int32.toInt_zero) (show ((y - y / ((10 : Int64)) * ((10 : Int64))).toInt32).toInt = ((y - y / ((10 : Int64)) * ((10 : Int64))).toInt32).toInt from rfl))).mp h34
        refine lv_iload hx hb dX1_digits_37 (lv_at hl 0 rfl) ?_
        refine lv_ineg hx hb dX1_digits_39 ?_
        refine tl_top (y := nI (x.toInt.natAbs / 10 ^ cn % 10)) (by have q := dg_dig2 hy; rw [if_pos (by omega)] at q; exact q) ?_
        refine lv_goto (tgt := 45) hx hb dX1_digits_40 rfl ?_
        refine lv_iadd hx hb dX1_digits_45 ?_
        refine tl_top (nI_add _ _) ?_
        refine tl_iast hx hb hK hP hD hS 3 2 rfl rfl (by omega) (by decide) dX1_digits_46 (fun H locs hP hD hS => ?_)
        have hP : va_P (dC, dI) vwCl [(h0, .inr (1, [.ref q0, .ref q1, .ref q2, .int (nI n), .int (nI k), .int (nI (cn + 1))])), (q0, .inl (cA, 3000, .inl T)), (q1, .inl (cB, 40, .inl G)), (q2, .inl (cC, 20, .inl (upd F cn (nI (48 + (x.toInt.natAbs / 10 ^ cn % 10))))))] H := hP
        have hD : va_D A [(h0, .inr (1, [.ref q0, .ref q1, .ref q2, .int (nI n), .int (nI k), .int (nI (cn + 1))])), (q0, .inl (cA, 3000, .inl T)), (q1, .inl (cB, 40, .inl G)), (q2, .inl (cC, 20, .inl (upd F cn (nI (48 + (x.toInt.natAbs / 10 ^ cn % 10))))))] := hD
        refine lv_lload_n hx hb dX1_digits_47 rfl (lv_at hl 3 rfl) ?_
        refine lv_ldc2 (v := (10 : Int64)) hx hb hown (hts _ (List.mem_cons_of_mem _ k294)) dX1_digits_48 ?_
        refine lv_ldiv hx hb dX1_digits_51 (by decide) ?_
        refine lv_lstore_n (lv' := [(3, .long (y / ((10 : Int64)))), (5, .int ((y - y / ((10 : Int64)) * ((10 : Int64))).toInt32)), (0, .ref h0), (1, .long x)]) hx hb dX1_digits_52 rfl hl (by decide) rfl (fun ls hl => ?_)
        have hy5 : (y / (10 : Int64)).toInt.natAbs = x.toInt.natAbs / 10 ^ (cn + 1) := by rw [dg_div, hy, Nat.div_div_eq_div_mul, Nat.pow_succ]
        refine lv_lload_n hx hb dX1_digits_53 rfl (lv_at hl 0 rfl) ?_
        refine lv_lconst (v := (0 : Int64)) hx hb dX1_digits_54 (by decide) ?_
        refine W.lcmp hx hb dX1_digits_55 ?_
        refine lv_if_ne (tgt := 7) hx hb dX1_digits_56 rfl (fun h56 => ?_) (fun h56 => ?_)
        · skip
          have h56 := (not_congr (tl_leq (show (y / ((10 : Int64))).toInt = (y / ((10 : Int64))).toInt from rfl) (show ((0 : Int64)).toInt = (0 : Int) from (by decide)))).mp h56
          exact ih (cn + 1) (y / (10 : Int64)) (upd F cn (nI (48 + (x.toInt.natAbs / 10 ^ cn % 10)))) _ _ ls (by omega) (by exact dg_cap (x := x) (dg_more2 hy5 (by omega))) (hy5) (Or.inr (dg_more2 hy5 (by omega))) (pm_dgF hF) (lv_sub hl [2, 3, 0] rfl) hP hD hS
        · skip
          have h56 := (tl_leq (show (y / ((10 : Int64))).toInt = (y / ((10 : Int64))).toInt from rfl) (show ((0 : Int64)).toInt = (0 : Int) from (by decide))).mp h56
          have hcc : dg_c x.toInt.natAbs = cn + 1 := dg_c_uni (by omega) (by omega) (dg_less hy5 (by omega)) (by rcases hc2 with q | q; exact Or.inl (by omega); exact Or.inr q)
          refine lv_lload_n hx hb dX1_digits_59 rfl (lv_at hl 3 rfl) ?_
          refine lv_lconst (v := (0 : Int64)) hx hb dX1_digits_60 (by decide) ?_
          refine W.lcmp hx hb dX1_digits_61 ?_
          refine lv_if_ge (tgt := 83) hx hb dX1_digits_62 rfl (fun h62 => ?_) (fun h62 => ?_)
          · skip
            have h62 := (tl_lge (show x.toInt = x.toInt from rfl) (show ((0 : Int64)).toInt = (0 : Int) from (by decide))).mp h62
            subst hQ
            exact W.vret hx hb hr (fun t ht hW => ⟨⟨((n, T, k, G), upd F cn (nI (48 + (x.toInt.natAbs / 10 ^ cn % 10))), nI (cn + 1)), rfl, ⟨rfl, pm_dg_np h62 hcc, pm_dg_wp h62 hcc (pm_dgF hF)⟩, by rw [ht]; exact hP, va_K.moved hW.alike hK, hD⟩, hS.F ht⟩) hS.2.2 dX1_digits_83
          · skip
            have h62 := (not_congr (tl_lge (show x.toInt = x.toInt from rfl) (show ((0 : Int64)).toInt = (0 : Int) from (by decide)))).mp h62
            refine lv_aload_n hx hb dX1_digits_65 rfl (lv_at hl 2 rfl) ?_
            refine va_get (D := (dC, dI)) (ci := 1) (v := .ref q2) (C := RX1) (T := TX1) (N := 6) hx hb hts hinX1 hown hK hP 0 rfl rfl 2 (by decide) (hts _ (List.mem_cons_of_mem _ k247)) (fun _ h9 => h9) rfl dX1_digits_66 ?_
            refine lv_aload_n hx hb dX1_digits_69 rfl (lv_at hl 2 rfl) ?_
            refine lv_dup hx hb dX1_digits_70 rfl ?_
            refine va_get (D := (dC, dI)) (ci := 1) (v := .int (nI (cn + 1))) (C := RX1) (T := TX1) (N := 6) hx hb hts hinX1 hown hK hP 0 rfl rfl 5 (by decide) (hts _ (List.mem_cons_of_mem _ k250)) (fun _ h9 => h9) rfl dX1_digits_71 ?_
            refine lv_dup_x1 hx hb dX1_digits_74 rfl rfl ?_
            refine lv_iconst (v := nI 1) hx hb dX1_digits_75 (by decide) ?_
            refine lv_iadd hx hb dX1_digits_76 ?_
            refine tl_top (nI_add _ _) ?_
            refine va_put (D := (dC, dI)) (ci := 1) (v := .int (nI (cn + 1 + 1))) (ty := .int) (C := RX1) (T := TX1) (N := 6) hx hb hts hinX1 tyX1 tyX1_ok nmX1 hown hK hP hD hS 0 rfl rfl 5 (by decide) (hts _ (List.mem_cons_of_mem _ k250)) (fun _ h9 => h9) rfl (by decide +kernel) rfl rfl (Nat.le_of_ble_eq_true rfl) dX1_digits_77 (fun H locs hP hD hS => ?_)
            have hP : va_P (dC, dI) vwCl [(h0, .inr (1, [.ref q0, .ref q1, .ref q2, .int (nI n), .int (nI k), .int (nI (cn + 1 + 1))])), (q0, .inl (cA, 3000, .inl T)), (q1, .inl (cB, 40, .inl G)), (q2, .inl (cC, 20, .inl (upd F cn (nI (48 + (x.toInt.natAbs / 10 ^ cn % 10))))))] H := hP
            have hD : va_D A [(h0, .inr (1, [.ref q0, .ref q1, .ref q2, .int (nI n), .int (nI k), .int (nI (cn + 1 + 1))])), (q0, .inl (cA, 3000, .inl T)), (q1, .inl (cB, 40, .inl G)), (q2, .inl (cC, 20, .inl (upd F cn (nI (48 + (x.toInt.natAbs / 10 ^ cn % 10))))))] := hD
            refine lv_bipush (v := nI 45) hx hb dX1_digits_80 (by decide) ?_
            refine tl_iast hx hb hK hP hD hS 3 2 rfl rfl (by omega) (by decide) dX1_digits_82 (fun H locs hP hD hS => ?_)
            have hP : va_P (dC, dI) vwCl [(h0, .inr (1, [.ref q0, .ref q1, .ref q2, .int (nI n), .int (nI k), .int (nI (cn + 1 + 1))])), (q0, .inl (cA, 3000, .inl T)), (q1, .inl (cB, 40, .inl G)), (q2, .inl (cC, 20, .inl (upd (upd F cn (nI (48 + (x.toInt.natAbs / 10 ^ cn % 10)))) (cn + 1) (nI 45))))] H := hP
            have hD : va_D A [(h0, .inr (1, [.ref q0, .ref q1, .ref q2, .int (nI n), .int (nI k), .int (nI (cn + 1 + 1))])), (q0, .inl (cA, 3000, .inl T)), (q1, .inl (cB, 40, .inl G)), (q2, .inl (cC, 20, .inl (upd (upd F cn (nI (48 + (x.toInt.natAbs / 10 ^ cn % 10)))) (cn + 1) (nI 45))))] := hD
            subst hQ
            exact W.vret hx hb hr (fun t ht hW => ⟨⟨((n, T, k, G), upd (upd F cn (nI (48 + (x.toInt.natAbs / 10 ^ cn % 10)))) (cn + 1) (nI 45), nI (cn + 1 + 1)), rfl, ⟨rfl, pm_dg_nn h62 hcc, pm_dg_wn h62 hcc (pm_dgF hF)⟩, by rw [ht]; exact hP, va_K.moved hW.alike hK, hD⟩, hS.F ht⟩) hS.2.2 dX1_digits_83
  exact LP7 _ 0 x E _ _ ls (Nat.lt_succ_self _) (by omega) (by rw [Nat.pow_zero, Nat.div_one]) (by exact Or.inl rfl) (by intro i hi; omega) (lv_sub hl [1, 2, 0] rfl) hP hD hS
end
section
set_option maxHeartbeats 4000000 in
set_option maxRecDepth 100000 in
theorem c_M_open (l : Launch) (dC : Nat → ClassId) (dI : Nat → Nat → Nat) (h0 q0 q1 q2 sz n k : Nat) (cA cB cC : ClassId) (T G T0 G0 : Nat → Int32) (hT : ∀ j, j < n → T j = T0 j) (hG : ∀ j, j < k → G j = G0 j) (hn : n ≤ 3000) (hk : k ≤ 40) (E : Nat → Int32) (d : Int32) (a mm : Nat) (han : a ≤ n) (hnm : n + mm ≤ 3000) : Met l yX1_open wsX1_open ({ frames := 0, cells := 0, slots := 0, locals := 0 } : Room) (va_Pc [.ref h0, .int (nI a), .int (nI mm)] (fun U => U.heap.size = sz ∧ va_P (dC, dI) vwCl [(h0, .inr (1, [.ref q0, .ref q1, .ref q2, .int (nI n), .int (nI k), .int d])), (q0, .inl (cA, 3000, .inl T)), (q1, .inl (cB, 40, .inl G)), (q2, .inl (cC, 20, .inl E))] U.heap ∧ va_K (dC, dI) vwCl [(cA, .int), (cB, .int), (cC, .int)] U ∧ va_D (fun _ => True) [(h0, .inr (1, [.ref q0, .ref q1, .ref q2, .int (nI n), .int (nI k), .int d])), (q0, .inl (cA, 3000, .inl T)), (q1, .inl (cB, 40, .inl G)), (q2, .inl (cC, 20, .inl E))])) (va_Qv (fun (u : tM) => ∃ F : Nat → Int32, u = ((n + mm, F, k, G), E, d) ∧ (∀ i, i < a → F i = T i) ∧ ∀ i, a ≤ i → i < n → F (i + mm) = T i) (at_M dC dI (va_A [(h0, .inr (1, [.ref q0, .ref q1, .ref q2, .int (nI n), .int (nI k), .int d])), (q0, .inl (cA, 3000, .inl T)), (q1, .inl (cB, 40, .inl G)), (q2, .inl (cC, 20, .inl E))] sz) h0 q0 q1 q2 cA cB cC) (va_A [(h0, .inr (1, [.ref q0, .ref q1, .ref q2, .int (nI n), .int (nI k), .int d])), (q0, .inl (cA, 3000, .inl T)), (q1, .inl (cB, 40, .inl G)), (q2, .inl (cC, 20, .inl E))] sz)) 0 0 (va_A [(h0, .inr (1, [.ref q0, .ref q1, .ref q2, .int (nI n), .int (nI k), .int d])), (q0, .inl (cA, 3000, .inl T)), (q1, .inl (cB, 40, .inl G)), (q2, .inl (cC, 20, .inl E))] sz) := by
  refine Met.ofW (cc := cX1_open) (maxL := 4) (ret := none) (by decide) rfl ?_
  intro p e s m args below meth c s₁ B hml hv
  obtain ⟨rfl, hsz, hP, hK, hD0⟩ := hv
  have hx := B.exec
  have hb := B.bytes
  have hr := B.returns
  have hts := atoms_spec (ws := wsX1_open) B.pre
  have hown : s.vm.findClass RX1 = some m.cls := findClass_of_methodNamed B.named
  have hlocks := B.notSynchronized
  subst hsz
  have hD := hD0.self (sz := s.heap.size)
  generalize hAe : va_A [(h0, .inr (1, [.ref q0, .ref q1, .ref q2, .int (nI n), .int (nI k), .int d])), (q0, .inl (cA, 3000, .inl T)), (q1, .inl (cB, 40, .inl G)), (q2, .inl (cC, 20, .inl E))] s.heap.size = A at hD ⊢
  have hA : ∀ q : Nat, s.heap.size ≤ q → A q := fun q h => by rw [← hAe]; exact Or.inr h
  have hS : va_S A s.heap s.heap [] := va_S.rf
  have hP : va_P (dC, dI) vwCl [(h0, .inr (1, [.ref q0, .ref q1, .ref q2, .int (nI n), .int (nI k), .int d])), (q0, .inl (cA, 3000, .inl T)), (q1, .inl (cB, 40, .inl G)), (q2, .inl (cC, 20, .inl E))] s.heap := hP
  have hinX1 : ∀ w ∈ u_ws RX1 TX1 6, w ∈ wsX1_open := fun w h => List.mem_cons_of_mem _ (inX1 w h)
  have hl := lv_entry ([.ref h0, .int (nI a), .int (nI mm)]) (n := 4) (Nat.le_of_ble_eq_true rfl)
  rw [lg_entry_eq]
  generalize (lg_sl ([.ref h0, .int (nI a), .int (nI mm)]) ++ List.replicate (4 - (lg_sl ([.ref h0, .int (nI a), .int (nI mm)])).length) Slot.unset).toArray = ls at hl ⊢
  have hl : lv_has ls 4 [(0, .ref h0), (1, .int (nI a)), (2, .int (nI mm))] := hl
  refine tl_q (fun Q hQ => ?_)
  refine lv_aload_n hx hb dX1_open_0 rfl (lv_at hl 0 rfl) ?_
  refine va_get (D := (dC, dI)) (ci := 1) (v := .int (nI n)) (C := RX1) (T := TX1) (N := 6) hx hb hts hinX1 hown hK hP 0 rfl rfl 3 (by decide) (hts _ (List.mem_cons_of_mem _ k248)) (fun _ h9 => h9) rfl dX1_open_1 ?_
  refine lv_iconst (v := nI 1) hx hb dX1_open_4 (by decide) ?_
  refine lv_isub hx hb dX1_open_5 ?_
  have e5 : ((nI n) - (nI 1)).toInt = ((n : Nat) : Int) - ((1 : Int)) := tl_subv (nI_toInt (by omega)) (by decide) (by omega) (by omega)
  refine lv_istore_n (lv' := [(3, .int ((nI n) - (nI 1))), (0, .ref h0), (1, .int (nI a)), (2, .int (nI mm))]) hx hb dX1_open_6 rfl hl (by decide) rfl (fun ls hl => ?_)
  have LP7 : ∀ (fu : Nat) (j : Nat) (F : Nat → Int32) (H : Heap) (locs : List Loc) (ls : Array Slot), j < fu → a ≤ j → j ≤ n → (∀ i, i < j → F i = T i) → (∀ i, j ≤ i → i < n → F (i + mm) = T i) → lv_has ls 4 [(0, .ref h0), (1, .int (nI a)), (2, .int (nI mm)), (3, .int (nI j - nI 1))] → va_P (dC, dI) vwCl [(h0, .inr (1, [.ref q0, .ref q1, .ref q2, .int (nI n), .int (nI k), .int d])), (q0, .inl (cA, 3000, .inl F)), (q1, .inl (cB, 40, .inl G)), (q2, .inl (cC, 20, .inl E))] H → va_D A [(h0, .inr (1, [.ref q0, .ref q1, .ref q2, .int (nI n), .int (nI k), .int d])), (q0, .inl (cA, 3000, .inl F)), (q1, .inl (cB, 40, .inl G)), (q2, .inl (cC, 20, .inl E))] → va_S A s.heap H locs → W p l e (headSpec wsX1_open ({ frames := 0, cells := 0, slots := 0, locals := 0 } : Room)).room s m ([.ref h0, .int (nI a), .int (nI mm)] : List Value).toArray below meth c H locs 0 0 Q (F0 m 7 ls []) := by
    intro fu
    induction fu with
    | zero => intro j F H locs ls hfu; exact absurd hfu (Nat.not_lt_zero _)
    | succ fu ih =>
      intro j F H locs ls hfu hj1 hj2 hF1 hF2 hl hP hD hS
      refine lv_iload_n hx hb dX1_open_7 rfl (lv_at hl 3 rfl) ?_
      refine lv_iload_n hx hb dX1_open_8 rfl (lv_at hl 1 rfl) ?_
      refine lv_icmp_lt (tgt := 32) hx hb dX1_open_9 rfl (fun h9 => ?_) (fun h9 => ?_)
      · skip
        have h9 := (tl_lt (show (nI j - nI 1).toInt = ((j : Int) - 1) from (tl_predv (by omega))) (show (nI a).toInt = ((a : Nat) : Int) from (nI_toInt (by omega)))).mp h9
        refine lv_aload_n hx hb dX1_open_32 rfl (lv_at hl 0 rfl) ?_
        refine lv_dup hx hb dX1_open_33 rfl ?_
        refine va_get (D := (dC, dI)) (ci := 1) (v := .int (nI n)) (C := RX1) (T := TX1) (N := 6) hx hb hts hinX1 hown hK hP 0 rfl rfl 3 (by decide) (hts _ (List.mem_cons_of_mem _ k248)) (fun _ h9 => h9) rfl dX1_open_34 ?_
        refine lv_iload_n hx hb dX1_open_37 rfl (lv_at hl 2 rfl) ?_
        refine lv_iadd hx hb dX1_open_38 ?_
        refine tl_top (nI_add _ _) ?_
        refine va_put (D := (dC, dI)) (ci := 1) (v := .int (nI (n + mm))) (ty := .int) (C := RX1) (T := TX1) (N := 6) hx hb hts hinX1 tyX1 tyX1_ok nmX1 hown hK hP hD hS 0 rfl rfl 3 (by decide) (hts _ (List.mem_cons_of_mem _ k248)) (fun _ h9 => h9) rfl (by decide +kernel) rfl rfl (Nat.le_of_ble_eq_true rfl) dX1_open_39 (fun H locs hP hD hS => ?_)
        have hP : va_P (dC, dI) vwCl [(h0, .inr (1, [.ref q0, .ref q1, .ref q2, .int (nI (n + mm)), .int (nI k), .int d])), (q0, .inl (cA, 3000, .inl F)), (q1, .inl (cB, 40, .inl G)), (q2, .inl (cC, 20, .inl E))] H := hP
        have hD : va_D A [(h0, .inr (1, [.ref q0, .ref q1, .ref q2, .int (nI (n + mm)), .int (nI k), .int d])), (q0, .inl (cA, 3000, .inl F)), (q1, .inl (cB, 40, .inl G)), (q2, .inl (cC, 20, .inl E))] := hD
        subst hQ
        exact W.vret hx hb hr (fun t ht hW => ⟨⟨((n + mm, F, k, G), E, d), rfl, ⟨_, rfl, fun i hi => hF1 i (by omega), fun i hi1 hi2 => hF2 i (by omega) hi2⟩, by rw [ht]; exact hP, va_K.moved hW.alike hK, hD⟩, hS.F ht⟩) hS.2.2 dX1_open_42
      · skip
        have h9 := (not_congr (tl_lt (show (nI j - nI 1).toInt = ((j : Int) - 1) from (tl_predv (by omega))) (show (nI a).toInt = ((a : Nat) : Int) from (nI_toInt (by omega))))).mp h9
        obtain ⟨i, rfl⟩ : ∃ i, j = i + 1 := ⟨j - 1, by omega⟩
        rw [show nI (i + 1) - nI 1 = nI i from pk_sub (by omega)] at hl
        have hl : lv_has ls 4 [(0, .ref h0), (1, .int (nI a)), (2, .int (nI mm)), (3, .int (nI i))] := hl
        refine lv_aload_n hx hb dX1_open_12 rfl (lv_at hl 0 rfl) ?_
        refine va_get (D := (dC, dI)) (ci := 1) (v := .ref q0) (C := RX1) (T := TX1) (N := 6) hx hb hts hinX1 hown hK hP 0 rfl rfl 0 (by decide) (hts _ (List.mem_cons_of_mem _ k245)) (fun _ h9 => h9) rfl dX1_open_13 ?_
        refine lv_iload_n hx hb dX1_open_16 rfl (lv_at hl 3 rfl) ?_
        refine lv_iload_n hx hb dX1_open_17 rfl (lv_at hl 2 rfl) ?_
        refine lv_iadd hx hb dX1_open_18 ?_
        refine tl_top (nI_add _ _) ?_
        refine lv_aload_n hx hb dX1_open_19 rfl (lv_at hl 0 rfl) ?_
        refine va_get (D := (dC, dI)) (ci := 1) (v := .ref q0) (C := RX1) (T := TX1) (N := 6) hx hb hts hinX1 hown hK hP 0 rfl rfl 0 (by decide) (hts _ (List.mem_cons_of_mem _ k245)) (fun _ h9 => h9) rfl dX1_open_20 ?_
        refine lv_iload_n hx hb dX1_open_23 rfl (lv_at hl 3 rfl) ?_
        refine tl_iald (v := T i) hx hb hK hP 1 0 rfl rfl (by omega) (by decide) (hF1 i (by omega)) dX1_open_24 ?_
        refine tl_iast hx hb hK hP hD hS 1 0 rfl rfl (by omega) (by decide) dX1_open_25 (fun H locs hP hD hS => ?_)
        have hP : va_P (dC, dI) vwCl [(h0, .inr (1, [.ref q0, .ref q1, .ref q2, .int (nI n), .int (nI k), .int d])), (q0, .inl (cA, 3000, .inl (upd F (i + mm) (T i)))), (q1, .inl (cB, 40, .inl G)), (q2, .inl (cC, 20, .inl E))] H := hP
        have hD : va_D A [(h0, .inr (1, [.ref q0, .ref q1, .ref q2, .int (nI n), .int (nI k), .int d])), (q0, .inl (cA, 3000, .inl (upd F (i + mm) (T i)))), (q1, .inl (cB, 40, .inl G)), (q2, .inl (cC, 20, .inl E))] := hD
        refine lv_iinc (lv' := [(3, .int (nI i - nI 1)), (0, .ref h0), (1, .int (nI a)), (2, .int (nI mm))]) (k := 3) (v := nI i - nI 1) hx hb dX1_open_26 hl rfl (tl_dec i) (by decide) rfl (fun ls hl => ?_)
        refine lv_goto (tgt := 7) hx hb dX1_open_29 rfl ?_
        exact ih i (upd F (i + mm) (T i)) _ _ ls (by omega) (by omega) (by omega) (pm_op1 hF1) (pm_op2 hF1 hF2) (lv_sub hl [1, 2, 3, 0] rfl) hP hD hS
  exact LP7 _ n T _ _ ls (Nat.lt_succ_self _) (by omega) (by omega) (by intro i hi; rfl) (by intro i hi1 hi2; omega) (lv_sub hl [1, 2, 3, 0] rfl) hP hD hS
set_option maxHeartbeats 4000000 in
set_option maxRecDepth 100000 in
theorem c_M_close (l : Launch) (dC : Nat → ClassId) (dI : Nat → Nat → Nat) (h0 q0 q1 q2 sz n k : Nat) (cA cB cC : ClassId) (T G T0 G0 : Nat → Int32) (hT : ∀ j, j < n → T j = T0 j) (hG : ∀ j, j < k → G j = G0 j) (hn : n ≤ 3000) (hk : k ≤ 40) (E : Nat → Int32) (d : Int32) (a b : Nat) (hab : a ≤ b) (hbn : b ≤ n) : Met l yX1_close wsX1_close ({ frames := 0, cells := 0, slots := 0, locals := 0 } : Room) (va_Pc [.ref h0, .int (nI a), .int (nI b)] (fun U => U.heap.size = sz ∧ va_P (dC, dI) vwCl [(h0, .inr (1, [.ref q0, .ref q1, .ref q2, .int (nI n), .int (nI k), .int d])), (q0, .inl (cA, 3000, .inl T)), (q1, .inl (cB, 40, .inl G)), (q2, .inl (cC, 20, .inl E))] U.heap ∧ va_K (dC, dI) vwCl [(cA, .int), (cB, .int), (cC, .int)] U ∧ va_D (fun _ => True) [(h0, .inr (1, [.ref q0, .ref q1, .ref q2, .int (nI n), .int (nI k), .int d])), (q0, .inl (cA, 3000, .inl T)), (q1, .inl (cB, 40, .inl G)), (q2, .inl (cC, 20, .inl E))])) (va_Qv (fun (u : tM) => ∃ F : Nat → Int32, u = ((n - (b - a), F, k, G), E, d) ∧ (∀ i, i < a → F i = T i) ∧ ∀ i, b ≤ i → i < n → F (i - (b - a)) = T i) (at_M dC dI (va_A [(h0, .inr (1, [.ref q0, .ref q1, .ref q2, .int (nI n), .int (nI k), .int d])), (q0, .inl (cA, 3000, .inl T)), (q1, .inl (cB, 40, .inl G)), (q2, .inl (cC, 20, .inl E))] sz) h0 q0 q1 q2 cA cB cC) (va_A [(h0, .inr (1, [.ref q0, .ref q1, .ref q2, .int (nI n), .int (nI k), .int d])), (q0, .inl (cA, 3000, .inl T)), (q1, .inl (cB, 40, .inl G)), (q2, .inl (cC, 20, .inl E))] sz)) 0 0 (va_A [(h0, .inr (1, [.ref q0, .ref q1, .ref q2, .int (nI n), .int (nI k), .int d])), (q0, .inl (cA, 3000, .inl T)), (q1, .inl (cB, 40, .inl G)), (q2, .inl (cC, 20, .inl E))] sz) := by
  refine Met.ofW (cc := cX1_close) (maxL := 5) (ret := none) (by decide) rfl ?_
  intro p e s m args below meth c s₁ B hml hv
  obtain ⟨rfl, hsz, hP, hK, hD0⟩ := hv
  have hx := B.exec
  have hb := B.bytes
  have hr := B.returns
  have hts := atoms_spec (ws := wsX1_close) B.pre
  have hown : s.vm.findClass RX1 = some m.cls := findClass_of_methodNamed B.named
  have hlocks := B.notSynchronized
  subst hsz
  have hD := hD0.self (sz := s.heap.size)
  generalize hAe : va_A [(h0, .inr (1, [.ref q0, .ref q1, .ref q2, .int (nI n), .int (nI k), .int d])), (q0, .inl (cA, 3000, .inl T)), (q1, .inl (cB, 40, .inl G)), (q2, .inl (cC, 20, .inl E))] s.heap.size = A at hD ⊢
  have hA : ∀ q : Nat, s.heap.size ≤ q → A q := fun q h => by rw [← hAe]; exact Or.inr h
  have hS : va_S A s.heap s.heap [] := va_S.rf
  have hP : va_P (dC, dI) vwCl [(h0, .inr (1, [.ref q0, .ref q1, .ref q2, .int (nI n), .int (nI k), .int d])), (q0, .inl (cA, 3000, .inl T)), (q1, .inl (cB, 40, .inl G)), (q2, .inl (cC, 20, .inl E))] s.heap := hP
  have hinX1 : ∀ w ∈ u_ws RX1 TX1 6, w ∈ wsX1_close := fun w h => List.mem_cons_of_mem _ (inX1 w h)
  have hl := lv_entry ([.ref h0, .int (nI a), .int (nI b)]) (n := 5) (Nat.le_of_ble_eq_true rfl)
  rw [lg_entry_eq]
  generalize (lg_sl ([.ref h0, .int (nI a), .int (nI b)]) ++ List.replicate (5 - (lg_sl ([.ref h0, .int (nI a), .int (nI b)])).length) Slot.unset).toArray = ls at hl ⊢
  have hl : lv_has ls 5 [(0, .ref h0), (1, .int (nI a)), (2, .int (nI b))] := hl
  refine tl_q (fun Q hQ => ?_)
  refine lv_iload_n hx hb dX1_close_0 rfl (lv_at hl 2 rfl) ?_
  refine lv_iload_n hx hb dX1_close_1 rfl (lv_at hl 1 rfl) ?_
  refine lv_isub hx hb dX1_close_2 ?_
  refine tl_top (pk_sub (by omega)) ?_
  refine lv_istore_n (lv' := [(3, .int (nI (b - a))), (0, .ref h0), (1, .int (nI a)), (2, .int (nI b))]) hx hb dX1_close_3 rfl hl (by decide) rfl (fun ls hl => ?_)
  refine lv_iload_n hx hb dX1_close_4 rfl (lv_at hl 3 rfl) ?_
  refine lv_istore (lv' := [(4, .int (nI b)), (3, .int (nI (b - a))), (0, .ref h0), (1, .int (nI a)), (2, .int (nI b))]) hx hb dX1_close_5 hl (by decide) rfl (fun ls hl => ?_)
  have LP7 : ∀ (fu : Nat) (j : Nat) (F : Nat → Int32) (H : Heap) (locs : List Loc) (ls : Array Slot), n - j < fu → b ≤ j → j ≤ n → (∀ i, i < a → F i = T i) → (∀ i, b ≤ i → i < j → F (i - (b - a)) = T i) → (∀ i, j ≤ i → i < n → F i = T i) → lv_has ls 5 [(0, .ref h0), (3, .int (nI (b - a))), (4, .int (nI j))] → va_P (dC, dI) vwCl [(h0, .inr (1, [.ref q0, .ref q1, .ref q2, .int (nI n), .int (nI k), .int d])), (q0, .inl (cA, 3000, .inl F)), (q1, .inl (cB, 40, .inl G)), (q2, .inl (cC, 20, .inl E))] H → va_D A [(h0, .inr (1, [.ref q0, .ref q1, .ref q2, .int (nI n), .int (nI k), .int d])), (q0, .inl (cA, 3000, .inl F)), (q1, .inl (cB, 40, .inl G)), (q2, .inl (cC, 20, .inl E))] → va_S A s.heap H locs → W p l e (headSpec wsX1_close ({ frames := 0, cells := 0, slots := 0, locals := 0 } : Room)).room s m ([.ref h0, .int (nI a), .int (nI b)] : List Value).toArray below meth c H locs 0 0 Q (F0 m 7 ls []) := by
    intro fu
    induction fu with
    | zero => intro j F H locs ls hfu; exact absurd hfu (Nat.not_lt_zero _)
    | succ fu ih =>
      intro j F H locs ls hfu hj1 hj2 hF1 hF2 hF3 hl hP hD hS
      refine lv_iload hx hb dX1_close_7 (lv_at hl 2 rfl) ?_
      refine lv_aload_n hx hb dX1_close_9 rfl (lv_at hl 0 rfl) ?_
      refine va_get (D := (dC, dI)) (ci := 1) (v := .int (nI n)) (C := RX1) (T := TX1) (N := 6) hx hb hts hinX1 hown hK hP 0 rfl rfl 3 (by decide) (hts _ (List.mem_cons_of_mem _ k248)) (fun _ h9 => h9) rfl dX1_close_10 ?_
      refine lv_icmp_ge (tgt := 38) hx hb dX1_close_13 rfl (fun h13 => ?_) (fun h13 => ?_)
      · skip
        have h13 := (tl_le (show (nI n).toInt = ((n : Nat) : Int) from (nI_toInt (by omega))) (show (nI j).toInt = ((j : Nat) : Int) from (nI_toInt (by omega)))).mp h13
        refine lv_aload_n hx hb dX1_close_38 rfl (lv_at hl 0 rfl) ?_
        refine lv_dup hx hb dX1_close_39 rfl ?_
        refine va_get (D := (dC, dI)) (ci := 1) (v := .int (nI n)) (C := RX1) (T := TX1) (N := 6) hx hb hts hinX1 hown hK hP 0 rfl rfl 3 (by decide) (hts _ (List.mem_cons_of_mem _ k248)) (fun _ h9 => h9) rfl dX1_close_40 ?_
        refine lv_iload_n hx hb dX1_close_43 rfl (lv_at hl 1 rfl) ?_
        refine lv_isub hx hb dX1_close_44 ?_
        refine tl_top (pk_sub (by omega)) ?_
        refine va_put (D := (dC, dI)) (ci := 1) (v := .int (nI (n - (b - a)))) (ty := .int) (C := RX1) (T := TX1) (N := 6) hx hb hts hinX1 tyX1 tyX1_ok nmX1 hown hK hP hD hS 0 rfl rfl 3 (by decide) (hts _ (List.mem_cons_of_mem _ k248)) (fun _ h9 => h9) rfl (by decide +kernel) rfl rfl (Nat.le_of_ble_eq_true rfl) dX1_close_45 (fun H locs hP hD hS => ?_)
        have hP : va_P (dC, dI) vwCl [(h0, .inr (1, [.ref q0, .ref q1, .ref q2, .int (nI (n - (b - a))), .int (nI k), .int d])), (q0, .inl (cA, 3000, .inl F)), (q1, .inl (cB, 40, .inl G)), (q2, .inl (cC, 20, .inl E))] H := hP
        have hD : va_D A [(h0, .inr (1, [.ref q0, .ref q1, .ref q2, .int (nI (n - (b - a))), .int (nI k), .int d])), (q0, .inl (cA, 3000, .inl F)), (q1, .inl (cB, 40, .inl G)), (q2, .inl (cC, 20, .inl E))] := hD
        subst hQ
        exact W.vret hx hb hr (fun t ht hW => ⟨⟨((n - (b - a), F, k, G), E, d), rfl, ⟨_, rfl, hF1, fun i hi1 hi2 => hF2 i hi1 (by omega)⟩, by rw [ht]; exact hP, va_K.moved hW.alike hK, hD⟩, hS.F ht⟩) hS.2.2 dX1_close_48
      · skip
        have h13 := (not_congr (tl_le (show (nI n).toInt = ((n : Nat) : Int) from (nI_toInt (by omega))) (show (nI j).toInt = ((j : Nat) : Int) from (nI_toInt (by omega))))).mp h13
        refine lv_aload_n hx hb dX1_close_16 rfl (lv_at hl 0 rfl) ?_
        refine va_get (D := (dC, dI)) (ci := 1) (v := .ref q0) (C := RX1) (T := TX1) (N := 6) hx hb hts hinX1 hown hK hP 0 rfl rfl 0 (by decide) (hts _ (List.mem_cons_of_mem _ k245)) (fun _ h9 => h9) rfl dX1_close_17 ?_
        refine lv_iload hx hb dX1_close_20 (lv_at hl 2 rfl) ?_
        refine lv_iload_n hx hb dX1_close_22 rfl (lv_at hl 1 rfl) ?_
        refine lv_isub hx hb dX1_close_23 ?_
        refine tl_top (pk_sub (by omega)) ?_
        refine lv_aload_n hx hb dX1_close_24 rfl (lv_at hl 0 rfl) ?_
        refine va_get (D := (dC, dI)) (ci := 1) (v := .ref q0) (C := RX1) (T := TX1) (N := 6) hx hb hts hinX1 hown hK hP 0 rfl rfl 0 (by decide) (hts _ (List.mem_cons_of_mem _ k245)) (fun _ h9 => h9) rfl dX1_close_25 ?_
        refine lv_iload hx hb dX1_close_28 (lv_at hl 2 rfl) ?_
        refine tl_iald (v := T j) hx hb hK hP 1 0 rfl rfl (by omega) (by decide) (hF3 j (by omega) (by omega)) dX1_close_30 ?_
        refine tl_iast hx hb hK hP hD hS 1 0 rfl rfl (by omega) (by decide) dX1_close_31 (fun H locs hP hD hS => ?_)
        have hP : va_P (dC, dI) vwCl [(h0, .inr (1, [.ref q0, .ref q1, .ref q2, .int (nI n), .int (nI k), .int d])), (q0, .inl (cA, 3000, .inl (upd F (j - (b - a)) (T j)))), (q1, .inl (cB, 40, .inl G)), (q2, .inl (cC, 20, .inl E))] H := hP
        have hD : va_D A [(h0, .inr (1, [.ref q0, .ref q1, .ref q2, .int (nI n), .int (nI k), .int d])), (q0, .inl (cA, 3000, .inl (upd F (j - (b - a)) (T j)))), (q1, .inl (cB, 40, .inl G)), (q2, .inl (cC, 20, .inl E))] := hD
        refine lv_iinc (lv' := [(4, .int (nI (j + 1))), (0, .ref h0), (3, .int (nI (b - a)))]) (k := 2) (v := nI (j + 1)) hx hb dX1_close_32 hl rfl (tl_inc1 _) (by decide) rfl (fun ls hl => ?_)
        refine lv_goto (tgt := 7) hx hb dX1_close_35 rfl ?_
        exact ih (j + 1) (upd F (j - (b - a)) (T j)) _ _ ls (by omega) (by omega) (by omega) (pm_cl1 hab hj1 hF1) (pm_cl2 hab hj1 hF2) (pm_cl3 hab hj1 hF3) (lv_sub hl [1, 2, 0] rfl) hP hD hS
  exact LP7 _ b T _ _ ls (Nat.lt_succ_self _) (by omega) (by omega) (by intro i hi; rfl) (by intro i hi1 hi2; omega) (by intro i hi1 hi2; rfl) (lv_sub hl [2, 1, 0] rfl) hP hD hS
set_option maxHeartbeats 4000000 in
set_option maxRecDepth 100000 in
theorem c_M_putDigits (l : Launch) (dC : Nat → ClassId) (dI : Nat → Nat → Nat) (h0 q0 q1 q2 sz n k : Nat) (cA cB cC : ClassId) (T G T0 G0 : Nat → Int32) (hT : ∀ j, j < n → T j = T0 j) (hG : ∀ j, j < k → G j = G0 j) (hn : n ≤ 3000) (hk : k ≤ 40) (E : Nat → Int32) (mm : Nat) (ww : Nat → Int32) (hmm : mm ≤ 20) (hE : ∀ i, i < mm → E i = ww (mm - 1 - i)) (a : Nat) (han : a ≤ n) : Met l yX1_putDigits wsX1_putDigits ({ frames := 1, cells := 0, slots := 0, locals := 23 } : Room) (va_Pc [.ref h0, .int (nI a)] (fun U => U.heap.size = sz ∧ va_P (dC, dI) vwCl [(h0, .inr (1, [.ref q0, .ref q1, .ref q2, .int (nI n), .int (nI k), .int (nI mm)])), (q0, .inl (cA, 3000, .inl T)), (q1, .inl (cB, 40, .inl G)), (q2, .inl (cC, 20, .inl E))] U.heap ∧ va_K (dC, dI) vwCl [(cA, .int), (cB, .int), (cC, .int)] U ∧ va_D (fun _ => True) [(h0, .inr (1, [.ref q0, .ref q1, .ref q2, .int (nI n), .int (nI k), .int (nI mm)])), (q0, .inl (cA, 3000, .inl T)), (q1, .inl (cB, 40, .inl G)), (q2, .inl (cC, 20, .inl E))])) (va_Qi (fun (r : Int32) (u : tM) => r = (sp_put a a ww mm n T0 k G0).1 ∧ tE u.1 (sp_put a a ww mm n T0 k G0).2) (at_M dC dI (va_A [(h0, .inr (1, [.ref q0, .ref q1, .ref q2, .int (nI n), .int (nI k), .int (nI mm)])), (q0, .inl (cA, 3000, .inl T)), (q1, .inl (cB, 40, .inl G)), (q2, .inl (cC, 20, .inl E))] sz) h0 q0 q1 q2 cA cB cC) (va_A [(h0, .inr (1, [.ref q0, .ref q1, .ref q2, .int (nI n), .int (nI k), .int (nI mm)])), (q0, .inl (cA, 3000, .inl T)), (q1, .inl (cB, 40, .inl G)), (q2, .inl (cC, 20, .inl E))] sz)) 0 0 (va_A [(h0, .inr (1, [.ref q0, .ref q1, .ref q2, .int (nI n), .int (nI k), .int (nI mm)])), (q0, .inl (cA, 3000, .inl T)), (q1, .inl (cB, 40, .inl G)), (q2, .inl (cC, 20, .inl E))] sz) := by
  refine Met.ofW (cc := cX1_putDigits) (maxL := 3) (ret := (some .int)) (by decide) rfl ?_
  intro p e s m args below meth c s₁ B hml hv
  obtain ⟨rfl, hsz, hP, hK, hD0⟩ := hv
  have hx := B.exec
  have hb := B.bytes
  have hr := B.returns
  have hts := atoms_spec (ws := wsX1_putDigits) B.pre
  have hown : s.vm.findClass RX1 = some m.cls := findClass_of_methodNamed B.named
  have hlocks := B.notSynchronized
  subst hsz
  have hD := hD0.self (sz := s.heap.size)
  generalize hAe : va_A [(h0, .inr (1, [.ref q0, .ref q1, .ref q2, .int (nI n), .int (nI k), .int (nI mm)])), (q0, .inl (cA, 3000, .inl T)), (q1, .inl (cB, 40, .inl G)), (q2, .inl (cC, 20, .inl E))] s.heap.size = A at hD ⊢
  have hA : ∀ q : Nat, s.heap.size ≤ q → A q := fun q h => by rw [← hAe]; exact Or.inr h
  have hS : va_S A s.heap s.heap [] := va_S.rf
  have hP : va_P (dC, dI) vwCl [(h0, .inr (1, [.ref q0, .ref q1, .ref q2, .int (nI n), .int (nI k), .int (nI mm)])), (q0, .inl (cA, 3000, .inl T)), (q1, .inl (cB, 40, .inl G)), (q2, .inl (cC, 20, .inl E))] s.heap := hP
  have hinX1 : ∀ w ∈ u_ws RX1 TX1 6, w ∈ wsX1_putDigits := fun w h => List.mem_cons_of_mem _ (inX1 w h)
  have hl := lv_entry ([.ref h0, .int (nI a)]) (n := 3) (Nat.le_of_ble_eq_true rfl)
  rw [lg_entry_eq]
  generalize (lg_sl ([.ref h0, .int (nI a)]) ++ List.replicate (3 - (lg_sl ([.ref h0, .int (nI a)])).length) Slot.unset).toArray = ls at hl ⊢
  have hl : lv_has ls 3 [(0, .ref h0), (1, .int (nI a))] := hl
  refine tl_q (fun Q hQ => ?_)
  refine lv_aload_n hx hb dX1_putDigits_0 rfl (lv_at hl 0 rfl) ?_
  refine lv_aload_n hx hb dX1_putDigits_1 rfl (lv_at hl 0 rfl) ?_
  refine va_get (D := (dC, dI)) (ci := 1) (v := .int (nI mm)) (C := RX1) (T := TX1) (N := 6) hx hb hts hinX1 hown hK hP 0 rfl rfl 5 (by decide) (hts _ (List.mem_cons_of_mem _ k250)) (fun _ h9 => h9) rfl dX1_putDigits_2 ?_
  have ea5_0 : (nI mm).toInt = ((mm : Nat) : Int) := (nI_toInt (by omega))
  refine vp_callSi ((va_runV (As := [.int (nI mm)]) (rest := []) ⟨hx, hb, hml, hown, hts⟩ (c_M_full l dC dI h0 q0 q1 q2 n k cA cB cC T G T0 G0 hT hG (by omega) hk E (nI mm) (nI mm) (by omega) (by omega)) (cwV 1 hts (gV_ (fun w h => List.mem_cons_of_mem _ h) k299 k301 k14 k22 k302) rfl rfl rfl (by decide +kernel) ⟨Nat.le_of_ble_eq_true rfl, Nat.le_of_ble_eq_true rfl⟩) ⟨fun a U g mk q => by obtain ⟨q0, qP, qK⟩ := q; exact ⟨q0, qP, va_K.moved (u := U) (U := U.calling g mk a) (Vm.Alike.refl U.vm) qK⟩, va_recv hK hP (ci := 1) (q0 := 0) rfl rfl, fun U hU hW => ⟨rfl, by rw [hU]; exact hP, va_K.moved hW.alike hK⟩⟩ rfl rfl hl.1 rfl (lv_room (Nat.le_of_ble_eq_true rfl)) dX1_putDigits_5 ⟨Nat.le_of_ble_eq_true rfl, Nat.le_of_ble_eq_true rfl⟩).run) (fun r5 w5 => ?_)
  try dsimp only at w5
  refine lv_if_eq (tgt := 14) hx hb dX1_putDigits_8 rfl (fun h8 => ?_) (fun h8 => ?_)
  · skip
    have h8 := (tl_b0 w5).mp h8
    refine lv_aload_n hx hb dX1_putDigits_14 rfl (lv_at hl 0 rfl) ?_
    refine lv_iload_n hx hb dX1_putDigits_15 rfl (lv_at hl 1 rfl) ?_
    refine lv_aload_n hx hb dX1_putDigits_16 rfl (lv_at hl 0 rfl) ?_
    refine va_get (D := (dC, dI)) (ci := 1) (v := .int (nI mm)) (C := RX1) (T := TX1) (N := 6) hx hb hts hinX1 hown hK hP 0 rfl rfl 5 (by decide) (hts _ (List.mem_cons_of_mem _ k250)) (fun _ h9 => h9) rfl dX1_putDigits_17 ?_
    have hPc := hP.sub (ws' := [(h0, .inr (1, [.ref q0, .ref q1, .ref q2, .int (nI n), .int (nI k), .int (nI mm)])), (q0, .inl (cA, 3000, .inl T)), (q1, .inl (cB, 40, .inl G)), (q2, .inl (cC, 20, .inl E))]) [0, 1, 2, 3] rfl
    have hDc := hD.sub (ws' := [(h0, .inr (1, [.ref q0, .ref q1, .ref q2, .int (nI n), .int (nI k), .int (nI mm)])), (q0, .inl (cA, 3000, .inl T)), (q1, .inl (cB, 40, .inl G)), (q2, .inl (cC, 20, .inl E))]) [0, 1, 2, 3] (by decide) rfl
    have hKc := hK
    have hFc := va_free (wc := [(h0, .inr (1, [.ref q0, .ref q1, .ref q2, .int (nI n), .int (nI k), .int (nI mm)])), (q0, .inl (cA, 3000, .inl T)), (q1, .inl (cB, 40, .inl G)), (q2, .inl (cC, 20, .inl E))]) hD hS hA [0, 1, 2, 3] rfl
    refine va_callv (va_runV (As := [.int (nI a), .int (nI mm)]) (rest := []) ⟨hx, hb, hml, hown, hts⟩ (c_M_open l dC dI h0 q0 q1 q2 s.heap.size n k cA cB cC T G T0 G0 hT hG (by omega) hk E (nI mm) a mm (by omega) (by omega)) (cwV 2 hts (gV_ (fun w h => List.mem_cons_of_mem _ h) k303 k305 k15 k22 k306) rfl rfl rfl (by decide +kernel) ⟨Nat.le_of_ble_eq_true rfl, Nat.le_of_ble_eq_true rfl⟩) ⟨fun a U g mk q => by obtain ⟨q0, q1, qP, qK, qD⟩ := q; exact ⟨q0, q1, qP, va_K.moved (u := U) (U := U.calling g mk a) (Vm.Alike.refl U.vm) qK, qD⟩, va_recv hKc hPc (ci := 1) (q0 := 0) rfl rfl, fun U hU hW => ⟨rfl, by rw [hU], by rw [hU]; exact hPc, va_K.moved hW.alike hKc, hDc.weaken (fun _ _ _ _ => trivial)⟩⟩ rfl rfl hl.1 rfl (lv_room (Nat.le_of_ble_eq_true rfl)) dX1_putDigits_20 ⟨Nat.le_of_ble_eq_true rfl, Nat.le_of_ble_eq_true rfl⟩) hS (fun q _ h => hFc q h) hFc (fun u20 t H locs ht hvm w20 hB hz1 hk1 hS => ?_)
    try dsimp only at w20
    obtain ⟨F2, rfl, hO1, hO2⟩ := w20
    obtain ⟨hP1, hK1, hD1⟩ := hB
    rw [ht] at hP1
    obtain ⟨hP, hD⟩ := va_join (wr := []) (w1 := [(h0, .inr (1, [.ref q0, .ref q1, .ref q2, .int (nI (n + mm)), .int (nI k), .int (nI mm)])), (q0, .inl (cA, 3000, .inl F2)), (q1, .inl (cB, 40, .inl G)), (q2, .inl (cC, 20, .inl E))]) hP hD [0, 1, 2, 3] [] rfl rfl (by decide) (by decide) hk1 hFc hP1 hD1
    have hP : va_P (dC, dI) vwCl [(h0, .inr (1, [.ref q0, .ref q1, .ref q2, .int (nI (n + mm)), .int (nI k), .int (nI mm)])), (q0, .inl (cA, 3000, .inl F2)), (q1, .inl (cB, 40, .inl G)), (q2, .inl (cC, 20, .inl E))] H := hP
    have hD : va_D A [(h0, .inr (1, [.ref q0, .ref q1, .ref q2, .int (nI (n + mm)), .int (nI k), .int (nI mm)])), (q0, .inl (cA, 3000, .inl F2)), (q1, .inl (cB, 40, .inl G)), (q2, .inl (cC, 20, .inl E))] := hD
    refine lv_iconst (v := nI 0) hx hb dX1_putDigits_23 (by decide) ?_
    refine lv_istore_n (lv' := [(2, .int (nI 0)), (0, .ref h0), (1, .int (nI a))]) hx hb dX1_putDigits_24 rfl hl (by decide) rfl (fun ls hl => ?_)
    have LP25 : ∀ (fu : Nat) (j : Nat) (F : Nat → Int32) (H : Heap) (locs : List Loc) (ls : Array Slot), mm - j < fu → j ≤ mm → (∀ i, i < n + mm → (i < a + j ∨ a + mm ≤ i) → F i = tl_rep T0 a a ww mm i) → lv_has ls 3 [(0, .ref h0), (1, .int (nI a)), (2, .int (nI j))] → va_P (dC, dI) vwCl [(h0, .inr (1, [.ref q0, .ref q1, .ref q2, .int (nI (n + mm)), .int (nI k), .int (nI mm)])), (q0, .inl (cA, 3000, .inl F)), (q1, .inl (cB, 40, .inl G)), (q2, .inl (cC, 20, .inl E))] H → va_D A [(h0, .inr (1, [.ref q0, .ref q1, .ref q2, .int (nI (n + mm)), .int (nI k), .int (nI mm)])), (q0, .inl (cA, 3000, .inl F)), (q1, .inl (cB, 40, .inl G)), (q2, .inl (cC, 20, .inl E))] → va_S A s.heap H locs → W p l e (headSpec wsX1_putDigits ({ frames := 1, cells := 0, slots := 0, locals := 23 } : Room)).room s m ([.ref h0, .int (nI a)] : List Value).toArray below meth c H locs 0 0 Q (F0 m 25 ls []) := by
      intro fu
      induction fu with
      | zero => intro j F H locs ls hfu; exact absurd hfu (Nat.not_lt_zero _)
      | succ fu ih =>
        intro j F H locs ls hfu hj hF hl hP hD hS
        refine lv_iload_n hx hb dX1_putDigits_25 rfl (lv_at hl 2 rfl) ?_
        refine lv_aload_n hx hb dX1_putDigits_26 rfl (lv_at hl 0 rfl) ?_
        refine va_get (D := (dC, dI)) (ci := 1) (v := .int (nI mm)) (C := RX1) (T := TX1) (N := 6) hx hb hts hinX1 hown hK hP 0 rfl rfl 5 (by decide) (hts _ (List.mem_cons_of_mem _ k250)) (fun _ h9 => h9) rfl dX1_putDigits_27 ?_
        refine lv_icmp_ge (tgt := 60) hx hb dX1_putDigits_30 rfl (fun h30 => ?_) (fun h30 => ?_)
        · skip
          have h30 := (tl_le (show (nI mm).toInt = ((mm : Nat) : Int) from (nI_toInt (by omega))) (show (nI j).toInt = ((j : Nat) : Int) from (nI_toInt (by omega)))).mp h30
          refine lv_aload_n hx hb dX1_putDigits_60 rfl (lv_at hl 0 rfl) ?_
          refine va_get (D := (dC, dI)) (ci := 1) (v := .int (nI (n + mm))) (C := RX1) (T := TX1) (N := 6) hx hb hts hinX1 hown hK hP 0 rfl rfl 3 (by decide) (hts _ (List.mem_cons_of_mem _ k248)) (fun _ h9 => h9) rfl dX1_putDigits_61 ?_
          subst hQ
          exact W.iret (v := nI (n + mm)) hx hb hr (fun t ht hW => ⟨⟨nI (n + mm), ((n + mm, F, k, G), E, nI mm), rfl, (by unfold sp_put; rw [if_pos (by omega), Nat.sub_self, Nat.sub_zero]; exact ⟨rfl, tE_mk (fun i hi => hF i hi (by omega)) hG (by omega) hk⟩), by rw [ht]; exact hP, va_K.moved hW.alike hK, hD⟩, hS.F ht⟩) hS.2.2 dX1_putDigits_64
        · skip
          have h30 := (not_congr (tl_le (show (nI mm).toInt = ((mm : Nat) : Int) from (nI_toInt (by omega))) (show (nI j).toInt = ((j : Nat) : Int) from (nI_toInt (by omega))))).mp h30
          refine lv_aload_n hx hb dX1_putDigits_33 rfl (lv_at hl 0 rfl) ?_
          refine va_get (D := (dC, dI)) (ci := 1) (v := .ref q0) (C := RX1) (T := TX1) (N := 6) hx hb hts hinX1 hown hK hP 0 rfl rfl 0 (by decide) (hts _ (List.mem_cons_of_mem _ k245)) (fun _ h9 => h9) rfl dX1_putDigits_34 ?_
          refine lv_iload_n hx hb dX1_putDigits_37 rfl (lv_at hl 1 rfl) ?_
          refine lv_iload_n hx hb dX1_putDigits_38 rfl (lv_at hl 2 rfl) ?_
          refine lv_iadd hx hb dX1_putDigits_39 ?_
          refine tl_top (nI_add _ _) ?_
          refine lv_aload_n hx hb dX1_putDigits_40 rfl (lv_at hl 0 rfl) ?_
          refine va_get (D := (dC, dI)) (ci := 1) (v := .ref q2) (C := RX1) (T := TX1) (N := 6) hx hb hts hinX1 hown hK hP 0 rfl rfl 2 (by decide) (hts _ (List.mem_cons_of_mem _ k247)) (fun _ h9 => h9) rfl dX1_putDigits_41 ?_
          refine lv_aload_n hx hb dX1_putDigits_44 rfl (lv_at hl 0 rfl) ?_
          refine va_get (D := (dC, dI)) (ci := 1) (v := .int (nI mm)) (C := RX1) (T := TX1) (N := 6) hx hb hts hinX1 hown hK hP 0 rfl rfl 5 (by decide) (hts _ (List.mem_cons_of_mem _ k250)) (fun _ h9 => h9) rfl dX1_putDigits_45 ?_
          refine lv_iconst (v := nI 1) hx hb dX1_putDigits_48 (by decide) ?_
          refine lv_isub hx hb dX1_putDigits_49 ?_
          refine tl_top (pk_sub (by omega)) ?_
          refine lv_iload_n hx hb dX1_putDigits_50 rfl (lv_at hl 2 rfl) ?_
          refine lv_isub hx hb dX1_putDigits_51 ?_
          refine tl_top (pk_sub (by omega)) ?_
          refine tl_iald (v := ww j) hx hb hK hP 3 2 rfl rfl (by omega) (by decide) (by rw [hE _ (by omega)]; congr 1; omega) dX1_putDigits_52 ?_
          refine tl_iast hx hb hK hP hD hS 1 0 rfl rfl (by omega) (by decide) dX1_putDigits_53 (fun H locs hP hD hS => ?_)
          have hP : va_P (dC, dI) vwCl [(h0, .inr (1, [.ref q0, .ref q1, .ref q2, .int (nI (n + mm)), .int (nI k), .int (nI mm)])), (q0, .inl (cA, 3000, .inl (upd F (a + j) (ww j)))), (q1, .inl (cB, 40, .inl G)), (q2, .inl (cC, 20, .inl E))] H := hP
          have hD : va_D A [(h0, .inr (1, [.ref q0, .ref q1, .ref q2, .int (nI (n + mm)), .int (nI k), .int (nI mm)])), (q0, .inl (cA, 3000, .inl (upd F (a + j) (ww j)))), (q1, .inl (cB, 40, .inl G)), (q2, .inl (cC, 20, .inl E))] := hD
          refine lv_iinc (lv' := [(2, .int (nI (j + 1))), (0, .ref h0), (1, .int (nI a))]) (k := 2) (v := nI (j + 1)) hx hb dX1_putDigits_54 hl rfl (tl_inc1 _) (by decide) rfl (fun ls hl => ?_)
          refine lv_goto (tgt := 25) hx hb dX1_putDigits_57 rfl ?_
          exact ih (j + 1) (upd F (a + j) (ww j)) _ _ ls (by omega) (by omega) (pm_puts (by omega) hF) (lv_sub hl [1, 2, 0] rfl) hP hD hS
    exact LP25 _ 0 F2 _ _ ls (Nat.lt_succ_self _) (by omega) (pm_put0 hT han hO1 hO2) (lv_sub hl [1, 2, 0] rfl) hP hD hS
  · skip
    have h8 := (tl_b1 w5).mp h8
    refine lv_bipush (v := (-3 : Int32)) hx hb dX1_putDigits_11 (by decide) ?_
    subst hQ
    exact W.iret (v := (-3 : Int32)) hx hb hr (fun t ht hW => ⟨⟨(-3 : Int32), ((n, T, k, G), E, nI mm), rfl, (by unfold sp_put; rw [if_neg (by omega)]; exact ⟨rfl, tE_mk hT hG hn hk⟩), by rw [ht]; exact hP, va_K.moved hW.alike hK, hD⟩, hS.F ht⟩) hS.2.2 dX1_putDigits_13
set_option maxHeartbeats 4000000 in
set_option maxRecDepth 100000 in
theorem c_M_putScrap (l : Launch) (dC : Nat → ClassId) (dI : Nat → Nat → Nat) (h0 q0 q1 q2 sz n k : Nat) (cA cB cC : ClassId) (T G T0 G0 : Nat → Int32) (hT : ∀ j, j < n → T j = T0 j) (hG : ∀ j, j < k → G j = G0 j) (hn : n ≤ 3000) (hk : k ≤ 40) (E : Nat → Int32) (d : Int32) (a : Nat) (han : a ≤ n) : Met l yX1_putScrap wsX1_putScrap ({ frames := 1, cells := 0, slots := 0, locals := 23 } : Room) (va_Pc [.ref h0, .int (nI a)] (fun U => U.heap.size = sz ∧ va_P (dC, dI) vwCl [(h0, .inr (1, [.ref q0, .ref q1, .ref q2, .int (nI n), .int (nI k), .int d])), (q0, .inl (cA, 3000, .inl T)), (q1, .inl (cB, 40, .inl G)), (q2, .inl (cC, 20, .inl E))] U.heap ∧ va_K (dC, dI) vwCl [(cA, .int), (cB, .int), (cC, .int)] U ∧ va_D (fun _ => True) [(h0, .inr (1, [.ref q0, .ref q1, .ref q2, .int (nI n), .int (nI k), .int d])), (q0, .inl (cA, 3000, .inl T)), (q1, .inl (cB, 40, .inl G)), (q2, .inl (cC, 20, .inl E))])) (va_Qi (fun (r : Int32) (u : tM) => r = (sp_put a a G0 k n T0 k G0).1 ∧ tE u.1 (sp_put a a G0 k n T0 k G0).2) (at_M dC dI (va_A [(h0, .inr (1, [.ref q0, .ref q1, .ref q2, .int (nI n), .int (nI k), .int d])), (q0, .inl (cA, 3000, .inl T)), (q1, .inl (cB, 40, .inl G)), (q2, .inl (cC, 20, .inl E))] sz) h0 q0 q1 q2 cA cB cC) (va_A [(h0, .inr (1, [.ref q0, .ref q1, .ref q2, .int (nI n), .int (nI k), .int d])), (q0, .inl (cA, 3000, .inl T)), (q1, .inl (cB, 40, .inl G)), (q2, .inl (cC, 20, .inl E))] sz)) 0 0 (va_A [(h0, .inr (1, [.ref q0, .ref q1, .ref q2, .int (nI n), .int (nI k), .int d])), (q0, .inl (cA, 3000, .inl T)), (q1, .inl (cB, 40, .inl G)), (q2, .inl (cC, 20, .inl E))] sz) := by
  refine Met.ofW (cc := cX1_putScrap) (maxL := 3) (ret := (some .int)) (by decide) rfl ?_
  intro p e s m args below meth c s₁ B hml hv
  obtain ⟨rfl, hsz, hP, hK, hD0⟩ := hv
  have hx := B.exec
  have hb := B.bytes
  have hr := B.returns
  have hts := atoms_spec (ws := wsX1_putScrap) B.pre
  have hown : s.vm.findClass RX1 = some m.cls := findClass_of_methodNamed B.named
  have hlocks := B.notSynchronized
  subst hsz
  have hD := hD0.self (sz := s.heap.size)
  generalize hAe : va_A [(h0, .inr (1, [.ref q0, .ref q1, .ref q2, .int (nI n), .int (nI k), .int d])), (q0, .inl (cA, 3000, .inl T)), (q1, .inl (cB, 40, .inl G)), (q2, .inl (cC, 20, .inl E))] s.heap.size = A at hD ⊢
  have hA : ∀ q : Nat, s.heap.size ≤ q → A q := fun q h => by rw [← hAe]; exact Or.inr h
  have hS : va_S A s.heap s.heap [] := va_S.rf
  have hP : va_P (dC, dI) vwCl [(h0, .inr (1, [.ref q0, .ref q1, .ref q2, .int (nI n), .int (nI k), .int d])), (q0, .inl (cA, 3000, .inl T)), (q1, .inl (cB, 40, .inl G)), (q2, .inl (cC, 20, .inl E))] s.heap := hP
  have hinX1 : ∀ w ∈ u_ws RX1 TX1 6, w ∈ wsX1_putScrap := fun w h => List.mem_cons_of_mem _ (inX1 w h)
  have hl := lv_entry ([.ref h0, .int (nI a)]) (n := 3) (Nat.le_of_ble_eq_true rfl)
  rw [lg_entry_eq]
  generalize (lg_sl ([.ref h0, .int (nI a)]) ++ List.replicate (3 - (lg_sl ([.ref h0, .int (nI a)])).length) Slot.unset).toArray = ls at hl ⊢
  have hl : lv_has ls 3 [(0, .ref h0), (1, .int (nI a))] := hl
  refine tl_q (fun Q hQ => ?_)
  refine lv_aload_n hx hb dX1_putScrap_0 rfl (lv_at hl 0 rfl) ?_
  refine lv_aload_n hx hb dX1_putScrap_1 rfl (lv_at hl 0 rfl) ?_
  refine va_get (D := (dC, dI)) (ci := 1) (v := .int (nI k)) (C := RX1) (T := TX1) (N := 6) hx hb hts hinX1 hown hK hP 0 rfl rfl 4 (by decide) (hts _ (List.mem_cons_of_mem _ k249)) (fun _ h9 => h9) rfl dX1_putScrap_2 ?_
  have ea5_0 : (nI k).toInt = ((k : Nat) : Int) := (nI_toInt (by omega))
  refine vp_callSi ((va_runV (As := [.int (nI k)]) (rest := []) ⟨hx, hb, hml, hown, hts⟩ (c_M_full l dC dI h0 q0 q1 q2 n k cA cB cC T G T0 G0 hT hG (by omega) hk E d (nI k) (by omega) (by omega)) (cwV 1 hts (gV_ (fun w h => List.mem_cons_of_mem _ h) k299 k301 k14 k22 k302) rfl rfl rfl (by decide +kernel) ⟨Nat.le_of_ble_eq_true rfl, Nat.le_of_ble_eq_true rfl⟩) ⟨fun a U g mk q => by obtain ⟨q0, qP, qK⟩ := q; exact ⟨q0, qP, va_K.moved (u := U) (U := U.calling g mk a) (Vm.Alike.refl U.vm) qK⟩, va_recv hK hP (ci := 1) (q0 := 0) rfl rfl, fun U hU hW => ⟨rfl, by rw [hU]; exact hP, va_K.moved hW.alike hK⟩⟩ rfl rfl hl.1 rfl (lv_room (Nat.le_of_ble_eq_true rfl)) dX1_putScrap_5 ⟨Nat.le_of_ble_eq_true rfl, Nat.le_of_ble_eq_true rfl⟩).run) (fun r5 w5 => ?_)
  try dsimp only at w5
  refine lv_if_eq (tgt := 14) hx hb dX1_putScrap_8 rfl (fun h8 => ?_) (fun h8 => ?_)
  · skip
    have h8 := (tl_b0 w5).mp h8
    refine lv_aload_n hx hb dX1_putScrap_14 rfl (lv_at hl 0 rfl) ?_
    refine lv_iload_n hx hb dX1_putScrap_15 rfl (lv_at hl 1 rfl) ?_
    refine lv_aload_n hx hb dX1_putScrap_16 rfl (lv_at hl 0 rfl) ?_
    refine va_get (D := (dC, dI)) (ci := 1) (v := .int (nI k)) (C := RX1) (T := TX1) (N := 6) hx hb hts hinX1 hown hK hP 0 rfl rfl 4 (by decide) (hts _ (List.mem_cons_of_mem _ k249)) (fun _ h9 => h9) rfl dX1_putScrap_17 ?_
    have hPc := hP.sub (ws' := [(h0, .inr (1, [.ref q0, .ref q1, .ref q2, .int (nI n), .int (nI k), .int d])), (q0, .inl (cA, 3000, .inl T)), (q1, .inl (cB, 40, .inl G)), (q2, .inl (cC, 20, .inl E))]) [0, 1, 2, 3] rfl
    have hDc := hD.sub (ws' := [(h0, .inr (1, [.ref q0, .ref q1, .ref q2, .int (nI n), .int (nI k), .int d])), (q0, .inl (cA, 3000, .inl T)), (q1, .inl (cB, 40, .inl G)), (q2, .inl (cC, 20, .inl E))]) [0, 1, 2, 3] (by decide) rfl
    have hKc := hK
    have hFc := va_free (wc := [(h0, .inr (1, [.ref q0, .ref q1, .ref q2, .int (nI n), .int (nI k), .int d])), (q0, .inl (cA, 3000, .inl T)), (q1, .inl (cB, 40, .inl G)), (q2, .inl (cC, 20, .inl E))]) hD hS hA [0, 1, 2, 3] rfl
    refine va_callv (va_runV (As := [.int (nI a), .int (nI k)]) (rest := []) ⟨hx, hb, hml, hown, hts⟩ (c_M_open l dC dI h0 q0 q1 q2 s.heap.size n k cA cB cC T G T0 G0 hT hG (by omega) hk E d a k (by omega) (by omega)) (cwV 2 hts (gV_ (fun w h => List.mem_cons_of_mem _ h) k303 k305 k15 k22 k306) rfl rfl rfl (by decide +kernel) ⟨Nat.le_of_ble_eq_true rfl, Nat.le_of_ble_eq_true rfl⟩) ⟨fun a U g mk q => by obtain ⟨q0, q1, qP, qK, qD⟩ := q; exact ⟨q0, q1, qP, va_K.moved (u := U) (U := U.calling g mk a) (Vm.Alike.refl U.vm) qK, qD⟩, va_recv hKc hPc (ci := 1) (q0 := 0) rfl rfl, fun U hU hW => ⟨rfl, by rw [hU], by rw [hU]; exact hPc, va_K.moved hW.alike hKc, hDc.weaken (fun _ _ _ _ => trivial)⟩⟩ rfl rfl hl.1 rfl (lv_room (Nat.le_of_ble_eq_true rfl)) dX1_putScrap_20 ⟨Nat.le_of_ble_eq_true rfl, Nat.le_of_ble_eq_true rfl⟩) hS (fun q _ h => hFc q h) hFc (fun u20 t H locs ht hvm w20 hB hz1 hk1 hS => ?_)
    try dsimp only at w20
    obtain ⟨F2, rfl, hO1, hO2⟩ := w20
    obtain ⟨hP1, hK1, hD1⟩ := hB
    rw [ht] at hP1
    obtain ⟨hP, hD⟩ := va_join (wr := []) (w1 := [(h0, .inr (1, [.ref q0, .ref q1, .ref q2, .int (nI (n + k)), .int (nI k), .int d])), (q0, .inl (cA, 3000, .inl F2)), (q1, .inl (cB, 40, .inl G)), (q2, .inl (cC, 20, .inl E))]) hP hD [0, 1, 2, 3] [] rfl rfl (by decide) (by decide) hk1 hFc hP1 hD1
    have hP : va_P (dC, dI) vwCl [(h0, .inr (1, [.ref q0, .ref q1, .ref q2, .int (nI (n + k)), .int (nI k), .int d])), (q0, .inl (cA, 3000, .inl F2)), (q1, .inl (cB, 40, .inl G)), (q2, .inl (cC, 20, .inl E))] H := hP
    have hD : va_D A [(h0, .inr (1, [.ref q0, .ref q1, .ref q2, .int (nI (n + k)), .int (nI k), .int d])), (q0, .inl (cA, 3000, .inl F2)), (q1, .inl (cB, 40, .inl G)), (q2, .inl (cC, 20, .inl E))] := hD
    refine lv_iconst (v := nI 0) hx hb dX1_putScrap_23 (by decide) ?_
    refine lv_istore_n (lv' := [(2, .int (nI 0)), (0, .ref h0), (1, .int (nI a))]) hx hb dX1_putScrap_24 rfl hl (by decide) rfl (fun ls hl => ?_)
    have LP25 : ∀ (fu : Nat) (j : Nat) (F : Nat → Int32) (H : Heap) (locs : List Loc) (ls : Array Slot), k - j < fu → j ≤ k → (∀ i, i < n + k → (i < a + j ∨ a + k ≤ i) → F i = tl_rep T0 a a G0 k i) → lv_has ls 3 [(0, .ref h0), (1, .int (nI a)), (2, .int (nI j))] → va_P (dC, dI) vwCl [(h0, .inr (1, [.ref q0, .ref q1, .ref q2, .int (nI (n + k)), .int (nI k), .int d])), (q0, .inl (cA, 3000, .inl F)), (q1, .inl (cB, 40, .inl G)), (q2, .inl (cC, 20, .inl E))] H → va_D A [(h0, .inr (1, [.ref q0, .ref q1, .ref q2, .int (nI (n + k)), .int (nI k), .int d])), (q0, .inl (cA, 3000, .inl F)), (q1, .inl (cB, 40, .inl G)), (q2, .inl (cC, 20, .inl E))] → va_S A s.heap H locs → W p l e (headSpec wsX1_putScrap ({ frames := 1, cells := 0, slots := 0, locals := 23 } : Room)).room s m ([.ref h0, .int (nI a)] : List Value).toArray below meth c H locs 0 0 Q (F0 m 25 ls []) := by
      intro fu
      induction fu with
      | zero => intro j F H locs ls hfu; exact absurd hfu (Nat.not_lt_zero _)
      | succ fu ih =>
        intro j F H locs ls hfu hj hF hl hP hD hS
        refine lv_iload_n hx hb dX1_putScrap_25 rfl (lv_at hl 2 rfl) ?_
        refine lv_aload_n hx hb dX1_putScrap_26 rfl (lv_at hl 0 rfl) ?_
        refine va_get (D := (dC, dI)) (ci := 1) (v := .int (nI k)) (C := RX1) (T := TX1) (N := 6) hx hb hts hinX1 hown hK hP 0 rfl rfl 4 (by decide) (hts _ (List.mem_cons_of_mem _ k249)) (fun _ h9 => h9) rfl dX1_putScrap_27 ?_
        refine lv_icmp_ge (tgt := 53) hx hb dX1_putScrap_30 rfl (fun h30 => ?_) (fun h30 => ?_)
        · skip
          have h30 := (tl_le (show (nI k).toInt = ((k : Nat) : Int) from (nI_toInt (by omega))) (show (nI j).toInt = ((j : Nat) : Int) from (nI_toInt (by omega)))).mp h30
          refine lv_aload_n hx hb dX1_putScrap_53 rfl (lv_at hl 0 rfl) ?_
          refine va_get (D := (dC, dI)) (ci := 1) (v := .int (nI (n + k))) (C := RX1) (T := TX1) (N := 6) hx hb hts hinX1 hown hK hP 0 rfl rfl 3 (by decide) (hts _ (List.mem_cons_of_mem _ k248)) (fun _ h9 => h9) rfl dX1_putScrap_54 ?_
          subst hQ
          exact W.iret (v := nI (n + k)) hx hb hr (fun t ht hW => ⟨⟨nI (n + k), ((n + k, F, k, G), E, d), rfl, (by unfold sp_put; rw [if_pos (by omega), Nat.sub_self, Nat.sub_zero]; exact ⟨rfl, tE_mk (fun i hi => hF i hi (by omega)) hG (by omega) hk⟩), by rw [ht]; exact hP, va_K.moved hW.alike hK, hD⟩, hS.F ht⟩) hS.2.2 dX1_putScrap_57
        · skip
          have h30 := (not_congr (tl_le (show (nI k).toInt = ((k : Nat) : Int) from (nI_toInt (by omega))) (show (nI j).toInt = ((j : Nat) : Int) from (nI_toInt (by omega))))).mp h30
          refine lv_aload_n hx hb dX1_putScrap_33 rfl (lv_at hl 0 rfl) ?_
          refine va_get (D := (dC, dI)) (ci := 1) (v := .ref q0) (C := RX1) (T := TX1) (N := 6) hx hb hts hinX1 hown hK hP 0 rfl rfl 0 (by decide) (hts _ (List.mem_cons_of_mem _ k245)) (fun _ h9 => h9) rfl dX1_putScrap_34 ?_
          refine lv_iload_n hx hb dX1_putScrap_37 rfl (lv_at hl 1 rfl) ?_
          refine lv_iload_n hx hb dX1_putScrap_38 rfl (lv_at hl 2 rfl) ?_
          refine lv_iadd hx hb dX1_putScrap_39 ?_
          refine tl_top (nI_add _ _) ?_
          refine lv_aload_n hx hb dX1_putScrap_40 rfl (lv_at hl 0 rfl) ?_
          refine va_get (D := (dC, dI)) (ci := 1) (v := .ref q1) (C := RX1) (T := TX1) (N := 6) hx hb hts hinX1 hown hK hP 0 rfl rfl 1 (by decide) (hts _ (List.mem_cons_of_mem _ k246)) (fun _ h9 => h9) rfl dX1_putScrap_41 ?_
          refine lv_iload_n hx hb dX1_putScrap_44 rfl (lv_at hl 2 rfl) ?_
          refine tl_iald (v := G0 j) hx hb hK hP 2 1 rfl rfl (by omega) (by decide) (hG _ (by omega)) dX1_putScrap_45 ?_
          refine tl_iast hx hb hK hP hD hS 1 0 rfl rfl (by omega) (by decide) dX1_putScrap_46 (fun H locs hP hD hS => ?_)
          have hP : va_P (dC, dI) vwCl [(h0, .inr (1, [.ref q0, .ref q1, .ref q2, .int (nI (n + k)), .int (nI k), .int d])), (q0, .inl (cA, 3000, .inl (upd F (a + j) (G0 j)))), (q1, .inl (cB, 40, .inl G)), (q2, .inl (cC, 20, .inl E))] H := hP
          have hD : va_D A [(h0, .inr (1, [.ref q0, .ref q1, .ref q2, .int (nI (n + k)), .int (nI k), .int d])), (q0, .inl (cA, 3000, .inl (upd F (a + j) (G0 j)))), (q1, .inl (cB, 40, .inl G)), (q2, .inl (cC, 20, .inl E))] := hD
          refine lv_iinc (lv' := [(2, .int (nI (j + 1))), (0, .ref h0), (1, .int (nI a))]) (k := 2) (v := nI (j + 1)) hx hb dX1_putScrap_47 hl rfl (tl_inc1 _) (by decide) rfl (fun ls hl => ?_)
          refine lv_goto (tgt := 25) hx hb dX1_putScrap_50 rfl ?_
          exact ih (j + 1) (upd F (a + j) (G0 j)) _ _ ls (by omega) (by omega) (pm_puts (by omega) hF) (lv_sub hl [1, 2, 0] rfl) hP hD hS
    exact LP25 _ 0 F2 _ _ ls (Nat.lt_succ_self _) (by omega) (pm_put0 hT han hO1 hO2) (lv_sub hl [1, 2, 0] rfl) hP hD hS
  · skip
    have h8 := (tl_b1 w5).mp h8
    refine lv_bipush (v := (-3 : Int32)) hx hb dX1_putScrap_11 (by decide) ?_
    subst hQ
    exact W.iret (v := (-3 : Int32)) hx hb hr (fun t ht hW => ⟨⟨(-3 : Int32), ((n, T, k, G), E, d), rfl, (by unfold sp_put; rw [if_neg (by omega)]; exact ⟨rfl, tE_mk hT hG hn hk⟩), by rw [ht]; exact hP, va_K.moved hW.alike hK, hD⟩, hS.F ht⟩) hS.2.2 dX1_putScrap_13
end
section
set_option maxHeartbeats 4000000 in
set_option maxRecDepth 100000 in
theorem c_M_get (l : Launch) (dC : Nat → ClassId) (dI : Nat → Nat → Nat) (h0 q0 q1 q2 n k : Nat) (cA cB cC : ClassId) (T G T0 G0 : Nat → Int32) (hT : ∀ j, j < n → T j = T0 j) (hG : ∀ j, j < k → G j = G0 j) (hn : n ≤ 3000) (hk : k ≤ 40) (E : Nat → Int32) (d : Int32) (x : Int32) : Met l yX1_get wsX1_get ({ frames := 0, cells := 0, slots := 0, locals := 0 } : Room) (va_Pc [.ref h0, .int x] (fun U => va_P (dC, dI) vwCl [(h0, .inr (1, [.ref q0, .ref q1, .ref q2, .int (nI n), .int (nI k), .int d])), (q0, .inl (cA, 3000, .inl T)), (q1, .inl (cB, 40, .inl G)), (q2, .inl (cC, 20, .inl E))] U.heap ∧ va_K (dC, dI) vwCl [(cA, .int), (cB, .int), (cC, .int)] U)) (vp_Si (fun r : Int32 => r = sp_get x n T0)) 0 0 (fun _ => False) := by
  refine Met.ofW (cc := cX1_get) (maxL := 2) (ret := (some .int)) (by decide) rfl ?_
  intro p e s m args below meth c s₁ B hml hv
  obtain ⟨rfl, hP, hK⟩ := hv
  have hx := B.exec
  have hb := B.bytes
  have hr := B.returns
  have hts := atoms_spec (ws := wsX1_get) B.pre
  have hown : s.vm.findClass RX1 = some m.cls := findClass_of_methodNamed B.named
  have hlocks := B.notSynchronized
  have hP : va_P (dC, dI) vwCl [(h0, .inr (1, [.ref q0, .ref q1, .ref q2, .int (nI n), .int (nI k), .int d])), (q0, .inl (cA, 3000, .inl T)), (q1, .inl (cB, 40, .inl G)), (q2, .inl (cC, 20, .inl E))] s.heap := hP
  have hinX1 : ∀ w ∈ u_ws RX1 TX1 6, w ∈ wsX1_get := fun w h => List.mem_cons_of_mem _ (inX1 w h)
  have hl := lv_entry ([.ref h0, .int x]) (n := 2) (Nat.le_of_ble_eq_true rfl)
  rw [lg_entry_eq]
  generalize (lg_sl ([.ref h0, .int x]) ++ List.replicate (2 - (lg_sl ([.ref h0, .int x])).length) Slot.unset).toArray = ls at hl ⊢
  have hl : lv_has ls 2 [(0, .ref h0), (1, .int x)] := hl
  refine tl_q (fun Q hQ => ?_)
  refine lv_iload_n hx hb dX1_get_0 rfl (lv_at hl 1 rfl) ?_
  refine lv_if_lt (tgt := 12) hx hb dX1_get_1 rfl (fun h1 => ?_) (fun h1 => ?_)
  · skip
    have h1 := (tl_lt (show x.toInt = x.toInt from rfl) (show (0 : Int32).toInt = (0 : Int) from Int32.toInt_zero)).mp h1
    refine lv_iconst (v := (-1 : Int32)) hx hb dX1_get_12 (by decide) ?_
    refine lv_goto (tgt := 22) hx hb dX1_get_13 rfl ?_
    subst hQ
    exact W.iret (v := (-1 : Int32)) hx hb hr (fun t ht hW => ⟨(-1 : Int32), rfl, (by (try dsimp only); unfold sp_get; (repeat' split) <;> first | rfl | (exfalso; omega)), ht⟩) (fun q h => absurd h List.not_mem_nil) dX1_get_22
  · skip
    have h1 := (not_congr (tl_lt (show x.toInt = x.toInt from rfl) (show (0 : Int32).toInt = (0 : Int) from Int32.toInt_zero))).mp h1
    refine lv_iload_n hx hb dX1_get_4 rfl (lv_at hl 1 rfl) ?_
    refine lv_aload_n hx hb dX1_get_5 rfl (lv_at hl 0 rfl) ?_
    refine va_get (D := (dC, dI)) (ci := 1) (v := .int (nI n)) (C := RX1) (T := TX1) (N := 6) hx hb hts hinX1 hown hK hP 0 rfl rfl 3 (by decide) (hts _ (List.mem_cons_of_mem _ k248)) (fun _ h9 => h9) rfl dX1_get_6 ?_
    refine lv_icmp_lt (tgt := 16) hx hb dX1_get_9 rfl (fun h9 => ?_) (fun h9 => ?_)
    · skip
      have h9 := (tl_lt (show x.toInt = x.toInt from rfl) (show (nI n).toInt = ((n : Nat) : Int) from (nI_toInt (by omega)))).mp h9
      obtain ⟨a, lta, rfl⟩ := tl_of (x := x) (by omega)
      have ea : (nI a).toInt = ((a : Nat) : Int) := nI_toInt lta
      refine lv_aload_n hx hb dX1_get_16 rfl (lv_at hl 0 rfl) ?_
      refine va_get (D := (dC, dI)) (ci := 1) (v := .ref q0) (C := RX1) (T := TX1) (N := 6) hx hb hts hinX1 hown hK hP 0 rfl rfl 0 (by decide) (hts _ (List.mem_cons_of_mem _ k245)) (fun _ h9 => h9) rfl dX1_get_17 ?_
      refine lv_iload_n hx hb dX1_get_20 rfl (lv_at hl 1 rfl) ?_
      refine tl_iald (v := T0 a) hx hb hK hP 1 0 rfl rfl (by omega) (by decide) (hT _ (by omega)) dX1_get_21 ?_
      subst hQ
      exact W.iret (v := T0 a) hx hb hr (fun t ht hW => ⟨T0 a, rfl, (by (try dsimp only); unfold sp_get; (try simp only [nI_clamp lta]); (repeat' split) <;> first | rfl | (exfalso; omega)), ht⟩) (fun q h => absurd h List.not_mem_nil) dX1_get_22
    · skip
      have h9 := (not_congr (tl_lt (show x.toInt = x.toInt from rfl) (show (nI n).toInt = ((n : Nat) : Int) from (nI_toInt (by omega))))).mp h9
      refine lv_iconst (v := (-1 : Int32)) hx hb dX1_get_12 (by decide) ?_
      refine lv_goto (tgt := 22) hx hb dX1_get_13 rfl ?_
      subst hQ
      exact W.iret (v := (-1 : Int32)) hx hb hr (fun t ht hW => ⟨(-1 : Int32), rfl, (by (try dsimp only); unfold sp_get; (repeat' split) <;> first | rfl | (exfalso; omega)), ht⟩) (fun q h => absurd h List.not_mem_nil) dX1_get_22
set_option maxHeartbeats 4000000 in
set_option maxRecDepth 100000 in
theorem c_M_scrap (l : Launch) (dC : Nat → ClassId) (dI : Nat → Nat → Nat) (h0 q0 q1 q2 n k : Nat) (cA cB cC : ClassId) (T G T0 G0 : Nat → Int32) (hT : ∀ j, j < n → T j = T0 j) (hG : ∀ j, j < k → G j = G0 j) (hn : n ≤ 3000) (hk : k ≤ 40) (E : Nat → Int32) (d : Int32) (x : Int32) : Met l yX1_scrap wsX1_scrap ({ frames := 0, cells := 0, slots := 0, locals := 0 } : Room) (va_Pc [.ref h0, .int x] (fun U => va_P (dC, dI) vwCl [(h0, .inr (1, [.ref q0, .ref q1, .ref q2, .int (nI n), .int (nI k), .int d])), (q0, .inl (cA, 3000, .inl T)), (q1, .inl (cB, 40, .inl G)), (q2, .inl (cC, 20, .inl E))] U.heap ∧ va_K (dC, dI) vwCl [(cA, .int), (cB, .int), (cC, .int)] U)) (vp_Si (fun r : Int32 => r = sp_scrap x k G0)) 0 0 (fun _ => False) := by
  refine Met.ofW (cc := cX1_scrap) (maxL := 2) (ret := (some .int)) (by decide) rfl ?_
  intro p e s m args below meth c s₁ B hml hv
  obtain ⟨rfl, hP, hK⟩ := hv
  have hx := B.exec
  have hb := B.bytes
  have hr := B.returns
  have hts := atoms_spec (ws := wsX1_scrap) B.pre
  have hown : s.vm.findClass RX1 = some m.cls := findClass_of_methodNamed B.named
  have hlocks := B.notSynchronized
  have hP : va_P (dC, dI) vwCl [(h0, .inr (1, [.ref q0, .ref q1, .ref q2, .int (nI n), .int (nI k), .int d])), (q0, .inl (cA, 3000, .inl T)), (q1, .inl (cB, 40, .inl G)), (q2, .inl (cC, 20, .inl E))] s.heap := hP
  have hinX1 : ∀ w ∈ u_ws RX1 TX1 6, w ∈ wsX1_scrap := fun w h => List.mem_cons_of_mem _ (inX1 w h)
  have hl := lv_entry ([.ref h0, .int x]) (n := 2) (Nat.le_of_ble_eq_true rfl)
  rw [lg_entry_eq]
  generalize (lg_sl ([.ref h0, .int x]) ++ List.replicate (2 - (lg_sl ([.ref h0, .int x])).length) Slot.unset).toArray = ls at hl ⊢
  have hl : lv_has ls 2 [(0, .ref h0), (1, .int x)] := hl
  refine tl_q (fun Q hQ => ?_)
  refine lv_iload_n hx hb dX1_scrap_0 rfl (lv_at hl 1 rfl) ?_
  refine lv_if_lt (tgt := 12) hx hb dX1_scrap_1 rfl (fun h1 => ?_) (fun h1 => ?_)
  · skip
    have h1 := (tl_lt (show x.toInt = x.toInt from rfl) (show (0 : Int32).toInt = (0 : Int) from Int32.toInt_zero)).mp h1
    refine lv_iconst (v := (-1 : Int32)) hx hb dX1_scrap_12 (by decide) ?_
    refine lv_goto (tgt := 22) hx hb dX1_scrap_13 rfl ?_
    subst hQ
    exact W.iret (v := (-1 : Int32)) hx hb hr (fun t ht hW => ⟨(-1 : Int32), rfl, (by (try dsimp only); unfold sp_scrap; (repeat' split) <;> first | rfl | (exfalso; omega)), ht⟩) (fun q h => absurd h List.not_mem_nil) dX1_scrap_22
  · skip
    have h1 := (not_congr (tl_lt (show x.toInt = x.toInt from rfl) (show (0 : Int32).toInt = (0 : Int) from Int32.toInt_zero))).mp h1
    refine lv_iload_n hx hb dX1_scrap_4 rfl (lv_at hl 1 rfl) ?_
    refine lv_aload_n hx hb dX1_scrap_5 rfl (lv_at hl 0 rfl) ?_
    refine va_get (D := (dC, dI)) (ci := 1) (v := .int (nI k)) (C := RX1) (T := TX1) (N := 6) hx hb hts hinX1 hown hK hP 0 rfl rfl 4 (by decide) (hts _ (List.mem_cons_of_mem _ k249)) (fun _ h9 => h9) rfl dX1_scrap_6 ?_
    refine lv_icmp_lt (tgt := 16) hx hb dX1_scrap_9 rfl (fun h9 => ?_) (fun h9 => ?_)
    · skip
      have h9 := (tl_lt (show x.toInt = x.toInt from rfl) (show (nI k).toInt = ((k : Nat) : Int) from (nI_toInt (by omega)))).mp h9
      obtain ⟨a, lta, rfl⟩ := tl_of (x := x) (by omega)
      have ea : (nI a).toInt = ((a : Nat) : Int) := nI_toInt lta
      refine lv_aload_n hx hb dX1_scrap_16 rfl (lv_at hl 0 rfl) ?_
      refine va_get (D := (dC, dI)) (ci := 1) (v := .ref q1) (C := RX1) (T := TX1) (N := 6) hx hb hts hinX1 hown hK hP 0 rfl rfl 1 (by decide) (hts _ (List.mem_cons_of_mem _ k246)) (fun _ h9 => h9) rfl dX1_scrap_17 ?_
      refine lv_iload_n hx hb dX1_scrap_20 rfl (lv_at hl 1 rfl) ?_
      refine tl_iald (v := G0 a) hx hb hK hP 2 1 rfl rfl (by omega) (by decide) (hG _ (by omega)) dX1_scrap_21 ?_
      subst hQ
      exact W.iret (v := G0 a) hx hb hr (fun t ht hW => ⟨G0 a, rfl, (by (try dsimp only); unfold sp_scrap; (try simp only [nI_clamp lta]); (repeat' split) <;> first | rfl | (exfalso; omega)), ht⟩) (fun q h => absurd h List.not_mem_nil) dX1_scrap_22
    · skip
      have h9 := (not_congr (tl_lt (show x.toInt = x.toInt from rfl) (show (nI k).toInt = ((k : Nat) : Int) from (nI_toInt (by omega))))).mp h9
      refine lv_iconst (v := (-1 : Int32)) hx hb dX1_scrap_12 (by decide) ?_
      refine lv_goto (tgt := 22) hx hb dX1_scrap_13 rfl ?_
      subst hQ
      exact W.iret (v := (-1 : Int32)) hx hb hr (fun t ht hW => ⟨(-1 : Int32), rfl, (by (try dsimp only); unfold sp_scrap; (repeat' split) <;> first | rfl | (exfalso; omega)), ht⟩) (fun q h => absurd h List.not_mem_nil) dX1_scrap_22
set_option maxHeartbeats 4000000 in
set_option maxRecDepth 100000 in
theorem c_M_look (l : Launch) (dC : Nat → ClassId) (dI : Nat → Nat → Nat) (h0 q0 q1 q2 n k : Nat) (cA cB cC : ClassId) (T G T0 G0 : Nat → Int32) (hT : ∀ j, j < n → T j = T0 j) (hG : ∀ j, j < k → G j = G0 j) (hn : n ≤ 3000) (hk : k ≤ 40) (E : Nat → Int32) (d : Int32) (x : Int32) : Met l yX1_look wsX1_look ({ frames := 0, cells := 0, slots := 0, locals := 0 } : Room) (va_Pc [.ref h0, .int x] (fun U => va_P (dC, dI) vwCl [(h0, .inr (1, [.ref q0, .ref q1, .ref q2, .int (nI n), .int (nI k), .int d])), (q0, .inl (cA, 3000, .inl T)), (q1, .inl (cB, 40, .inl G)), (q2, .inl (cC, 20, .inl E))] U.heap ∧ va_K (dC, dI) vwCl [(cA, .int), (cB, .int), (cC, .int)] U)) (vp_Si (fun r : Int32 => r = sp_look x n T0 k)) 0 0 (fun _ => False) := by
  refine Met.ofW (cc := cX1_look) (maxL := 4) (ret := (some .int)) (by decide) rfl ?_
  intro p e s m args below meth c s₁ B hml hv
  obtain ⟨rfl, hP, hK⟩ := hv
  have hx := B.exec
  have hb := B.bytes
  have hr := B.returns
  have hts := atoms_spec (ws := wsX1_look) B.pre
  have hown : s.vm.findClass RX1 = some m.cls := findClass_of_methodNamed B.named
  have hlocks := B.notSynchronized
  have hP : va_P (dC, dI) vwCl [(h0, .inr (1, [.ref q0, .ref q1, .ref q2, .int (nI n), .int (nI k), .int d])), (q0, .inl (cA, 3000, .inl T)), (q1, .inl (cB, 40, .inl G)), (q2, .inl (cC, 20, .inl E))] s.heap := hP
  have hinX1 : ∀ w ∈ u_ws RX1 TX1 6, w ∈ wsX1_look := fun w h => List.mem_cons_of_mem _ (inX1 w h)
  have hl := lv_entry ([.ref h0, .int x]) (n := 4) (Nat.le_of_ble_eq_true rfl)
  rw [lg_entry_eq]
  generalize (lg_sl ([.ref h0, .int x]) ++ List.replicate (4 - (lg_sl ([.ref h0, .int x])).length) Slot.unset).toArray = ls at hl ⊢
  have hl : lv_has ls 4 [(0, .ref h0), (1, .int x)] := hl
  refine tl_q (fun Q hQ => ?_)
  refine lv_iconst (v := nI 0) hx hb dX1_look_0 (by decide) ?_
  refine lv_istore_n (lv' := [(2, .int (nI 0)), (0, .ref h0), (1, .int x)]) hx hb dX1_look_1 rfl hl (by decide) rfl (fun ls hl => ?_)
  refine lv_iconst (v := nI 0) hx hb dX1_look_2 (by decide) ?_
  refine lv_istore_n (lv' := [(3, .int (nI 0)), (2, .int (nI 0)), (0, .ref h0), (1, .int x)]) hx hb dX1_look_3 rfl hl (by decide) rfl (fun ls hl => ?_)
  have LP4 : ∀ (fu : Nat) (j : Nat) (ls : Array Slot), n - j < fu → j ≤ n → lv_has ls 4 [(0, .ref h0), (1, .int x), (2, .int (tl_sum T0 j)), (3, .int (nI j))] → W p l e (headSpec wsX1_look ({ frames := 0, cells := 0, slots := 0, locals := 0 } : Room)).room s m ([.ref h0, .int x] : List Value).toArray below meth c s.heap [] 0 0 Q (F0 m 4 ls []) := by
    intro fu
    induction fu with
    | zero => intro j ls hfu; exact absurd hfu (Nat.not_lt_zero _)
    | succ fu ih =>
      intro j ls hfu hj hl
      refine lv_iload_n hx hb dX1_look_4 rfl (lv_at hl 3 rfl) ?_
      refine lv_aload_n hx hb dX1_look_5 rfl (lv_at hl 0 rfl) ?_
      refine va_get (D := (dC, dI)) (ci := 1) (v := .int (nI n)) (C := RX1) (T := TX1) (N := 6) hx hb hts hinX1 hown hK hP 0 rfl rfl 3 (by decide) (hts _ (List.mem_cons_of_mem _ k248)) (fun _ h9 => h9) rfl dX1_look_6 ?_
      refine lv_icmp_ge (tgt := 31) hx hb dX1_look_9 rfl (fun h9 => ?_) (fun h9 => ?_)
      · skip
        have h9 := (tl_le (show (nI n).toInt = ((n : Nat) : Int) from (nI_toInt (by omega))) (show (nI j).toInt = ((j : Nat) : Int) from (nI_toInt (by omega)))).mp h9
        refine lv_iload_n hx hb dX1_look_31 rfl (lv_at hl 1 rfl) ?_
        refine lv_if_ne (tgt := 42) hx hb dX1_look_32 rfl (fun h32 => ?_) (fun h32 => ?_)
        · skip
          have h32 := (not_congr (tl_eq (show x.toInt = x.toInt from rfl) (show (0 : Int32).toInt = (0 : Int) from Int32.toInt_zero))).mp h32
          refine lv_iload_n hx hb dX1_look_42 rfl (lv_at hl 1 rfl) ?_
          refine lv_iconst (v := nI 1) hx hb dX1_look_43 (by decide) ?_
          refine lv_icmp_ne (tgt := 54) hx hb dX1_look_44 rfl (fun h44 => ?_) (fun h44 => ?_)
          · skip
            have h44 := (not_congr (tl_eq (show x.toInt = x.toInt from rfl) (show (nI 1).toInt = (1 : Int) from (by decide)))).mp h44
            refine lv_iload_n hx hb dX1_look_54 rfl (lv_at hl 1 rfl) ?_
            refine lv_iconst (v := nI 2) hx hb dX1_look_55 (by decide) ?_
            refine lv_icmp_ne (tgt := 63) hx hb dX1_look_56 rfl (fun h56 => ?_) (fun h56 => ?_)
            · skip
              have h56 := (not_congr (tl_eq (show x.toInt = x.toInt from rfl) (show (nI 2).toInt = (2 : Int) from (by decide)))).mp h56
              refine lv_iconst (v := (-1 : Int32)) hx hb dX1_look_63 (by decide) ?_
              subst hQ
              exact W.iret (v := (-1 : Int32)) hx hb hr (fun t ht hW => ⟨(-1 : Int32), rfl, (by (try dsimp only); unfold sp_look; (repeat' split) <;> first | rfl | (exfalso; omega) | (rw [show j = n by omega])), ht⟩) (fun q h => absurd h List.not_mem_nil) dX1_look_64
            · skip
              have h56 := (tl_eq (show x.toInt = x.toInt from rfl) (show (nI 2).toInt = (2 : Int) from (by decide))).mp h56
              refine lv_iload_n hx hb dX1_look_59 rfl (lv_at hl 2 rfl) ?_
              refine lv_goto (tgt := 64) hx hb dX1_look_60 rfl ?_
              subst hQ
              exact W.iret (v := tl_sum T0 j) hx hb hr (fun t ht hW => ⟨tl_sum T0 j, rfl, (by (try dsimp only); unfold sp_look; (repeat' split) <;> first | rfl | (exfalso; omega) | (rw [show j = n by omega])), ht⟩) (fun q h => absurd h List.not_mem_nil) dX1_look_64
          · skip
            have h44 := (tl_eq (show x.toInt = x.toInt from rfl) (show (nI 1).toInt = (1 : Int) from (by decide))).mp h44
            refine lv_aload_n hx hb dX1_look_47 rfl (lv_at hl 0 rfl) ?_
            refine va_get (D := (dC, dI)) (ci := 1) (v := .int (nI k)) (C := RX1) (T := TX1) (N := 6) hx hb hts hinX1 hown hK hP 0 rfl rfl 4 (by decide) (hts _ (List.mem_cons_of_mem _ k249)) (fun _ h9 => h9) rfl dX1_look_48 ?_
            refine lv_goto (tgt := 64) hx hb dX1_look_51 rfl ?_
            subst hQ
            exact W.iret (v := nI k) hx hb hr (fun t ht hW => ⟨nI k, rfl, (by (try dsimp only); unfold sp_look; (repeat' split) <;> first | rfl | (exfalso; omega) | (rw [show j = n by omega])), ht⟩) (fun q h => absurd h List.not_mem_nil) dX1_look_64
        · skip
          have h32 := (tl_eq (show x.toInt = x.toInt from rfl) (show (0 : Int32).toInt = (0 : Int) from Int32.toInt_zero)).mp h32
          refine lv_aload_n hx hb dX1_look_35 rfl (lv_at hl 0 rfl) ?_
          refine va_get (D := (dC, dI)) (ci := 1) (v := .int (nI n)) (C := RX1) (T := TX1) (N := 6) hx hb hts hinX1 hown hK hP 0 rfl rfl 3 (by decide) (hts _ (List.mem_cons_of_mem _ k248)) (fun _ h9 => h9) rfl dX1_look_36 ?_
          refine lv_goto (tgt := 64) hx hb dX1_look_39 rfl ?_
          subst hQ
          exact W.iret (v := nI n) hx hb hr (fun t ht hW => ⟨nI n, rfl, (by (try dsimp only); unfold sp_look; (repeat' split) <;> first | rfl | (exfalso; omega) | (rw [show j = n by omega])), ht⟩) (fun q h => absurd h List.not_mem_nil) dX1_look_64
      · skip
        have h9 := (not_congr (tl_le (show (nI n).toInt = ((n : Nat) : Int) from (nI_toInt (by omega))) (show (nI j).toInt = ((j : Nat) : Int) from (nI_toInt (by omega))))).mp h9
        refine lv_iload_n hx hb dX1_look_12 rfl (lv_at hl 2 rfl) ?_
        refine lv_iload_n hx hb dX1_look_13 rfl (lv_at hl 3 rfl) ?_
        refine lv_iconst (v := nI 1) hx hb dX1_look_14 (by decide) ?_
        refine lv_iadd hx hb dX1_look_15 ?_
        refine tl_top (nI_add _ _) ?_
        refine lv_aload_n hx hb dX1_look_16 rfl (lv_at hl 0 rfl) ?_
        refine va_get (D := (dC, dI)) (ci := 1) (v := .ref q0) (C := RX1) (T := TX1) (N := 6) hx hb hts hinX1 hown hK hP 0 rfl rfl 0 (by decide) (hts _ (List.mem_cons_of_mem _ k245)) (fun _ h9 => h9) rfl dX1_look_17 ?_
        refine lv_iload_n hx hb dX1_look_20 rfl (lv_at hl 3 rfl) ?_
        refine tl_iald (v := T0 j) hx hb hK hP 1 0 rfl rfl (by omega) (by decide) (hT _ (by omega)) dX1_look_21 ?_
        refine lv_imul hx hb dX1_look_22 ?_
        refine lv_iadd hx hb dX1_look_23 ?_
        refine tl_top (y := tl_sum T0 (j + 1)) (rfl) ?_
        refine lv_istore_n (lv' := [(2, .int (tl_sum T0 (j + 1))), (0, .ref h0), (1, .int x), (3, .int (nI j))]) hx hb dX1_look_24 rfl hl (by decide) rfl (fun ls hl => ?_)
        refine lv_iinc (lv' := [(3, .int (nI (j + 1))), (2, .int (tl_sum T0 (j + 1))), (0, .ref h0), (1, .int x)]) (k := 3) (v := nI (j + 1)) hx hb dX1_look_25 hl rfl (tl_inc1 _) (by decide) rfl (fun ls hl => ?_)
        refine lv_goto (tgt := 4) hx hb dX1_look_28 rfl ?_
        exact ih (j + 1) ls (by omega) (by omega) (lv_sub hl [2, 3, 1, 0] rfl)
  exact LP4 _ 0 ls (Nat.lt_succ_self _) (by omega) (lv_sub hl [2, 3, 1, 0] rfl)
set_option maxHeartbeats 4000000 in
set_option maxRecDepth 100000 in
theorem c_M_compare (l : Launch) (dC : Nat → ClassId) (dI : Nat → Nat → Nat) (h0 q0 q1 q2 n k : Nat) (cA cB cC : ClassId) (T G T0 G0 : Nat → Int32) (hT : ∀ j, j < n → T j = T0 j) (hG : ∀ j, j < k → G j = G0 j) (hn : n ≤ 3000) (hk : k ≤ 40) (E : Nat → Int32) (d : Int32)  : Met l yX1_compare wsX1_compare ({ frames := 0, cells := 0, slots := 0, locals := 0 } : Room) (va_Pc [.ref h0] (fun U => va_P (dC, dI) vwCl [(h0, .inr (1, [.ref q0, .ref q1, .ref q2, .int (nI n), .int (nI k), .int d])), (q0, .inl (cA, 3000, .inl T)), (q1, .inl (cB, 40, .inl G)), (q2, .inl (cC, 20, .inl E))] U.heap ∧ va_K (dC, dI) vwCl [(cA, .int), (cB, .int), (cC, .int)] U)) (vp_Si (fun r : Int32 => r = sp_compare n T0 k G0)) 0 0 (fun _ => False) := by
  refine Met.ofW (cc := cX1_compare) (maxL := 2) (ret := (some .int)) (by decide) rfl ?_
  intro p e s m args below meth c s₁ B hml hv
  obtain ⟨rfl, hP, hK⟩ := hv
  have hx := B.exec
  have hb := B.bytes
  have hr := B.returns
  have hts := atoms_spec (ws := wsX1_compare) B.pre
  have hown : s.vm.findClass RX1 = some m.cls := findClass_of_methodNamed B.named
  have hlocks := B.notSynchronized
  have hP : va_P (dC, dI) vwCl [(h0, .inr (1, [.ref q0, .ref q1, .ref q2, .int (nI n), .int (nI k), .int d])), (q0, .inl (cA, 3000, .inl T)), (q1, .inl (cB, 40, .inl G)), (q2, .inl (cC, 20, .inl E))] s.heap := hP
  have hinX1 : ∀ w ∈ u_ws RX1 TX1 6, w ∈ wsX1_compare := fun w h => List.mem_cons_of_mem _ (inX1 w h)
  have hl := lv_entry ([.ref h0]) (n := 2) (Nat.le_of_ble_eq_true rfl)
  rw [lg_entry_eq]
  generalize (lg_sl ([.ref h0]) ++ List.replicate (2 - (lg_sl ([.ref h0])).length) Slot.unset).toArray = ls at hl ⊢
  have hl : lv_has ls 2 [(0, .ref h0)] := hl
  refine tl_q (fun Q hQ => ?_)
  refine lv_iconst (v := nI 0) hx hb dX1_compare_0 (by decide) ?_
  refine lv_istore_n (lv' := [(1, .int (nI 0)), (0, .ref h0)]) hx hb dX1_compare_1 rfl hl (by decide) rfl (fun ls hl => ?_)
  have LP2 : ∀ (fu : Nat) (j : Nat) (ls : Array Slot), min n k - j < fu → j ≤ min n k → sp_compare n T0 k G0 = tl_cmp T0 G0 (tl_ord n k) (min n k - j) j → lv_has ls 2 [(0, .ref h0), (1, .int (nI j))] → W p l e (headSpec wsX1_compare ({ frames := 0, cells := 0, slots := 0, locals := 0 } : Room)).room s m ([.ref h0] : List Value).toArray below meth c s.heap [] 0 0 Q (F0 m 2 ls []) := by
    intro fu
    induction fu with
    | zero => intro j ls hfu; exact absurd hfu (Nat.not_lt_zero _)
    | succ fu ih =>
      intro j ls hfu hj hf hl
      refine lv_iload_n hx hb dX1_compare_2 rfl (lv_at hl 1 rfl) ?_
      refine lv_aload_n hx hb dX1_compare_3 rfl (lv_at hl 0 rfl) ?_
      refine va_get (D := (dC, dI)) (ci := 1) (v := .int (nI n)) (C := RX1) (T := TX1) (N := 6) hx hb hts hinX1 hown hK hP 0 rfl rfl 3 (by decide) (hts _ (List.mem_cons_of_mem _ k248)) (fun _ h9 => h9) rfl dX1_compare_4 ?_
      refine lv_icmp_ge (tgt := 60) hx hb dX1_compare_7 rfl (fun h7 => ?_) (fun h7 => ?_)
      · skip
        have h7 := (tl_le (show (nI n).toInt = ((n : Nat) : Int) from (nI_toInt (by omega))) (show (nI j).toInt = ((j : Nat) : Int) from (nI_toInt (by omega)))).mp h7
        refine lv_aload_n hx hb dX1_compare_60 rfl (lv_at hl 0 rfl) ?_
        refine va_get (D := (dC, dI)) (ci := 1) (v := .int (nI n)) (C := RX1) (T := TX1) (N := 6) hx hb hts hinX1 hown hK hP 0 rfl rfl 3 (by decide) (hts _ (List.mem_cons_of_mem _ k248)) (fun _ h9 => h9) rfl dX1_compare_61 ?_
        refine lv_aload_n hx hb dX1_compare_64 rfl (lv_at hl 0 rfl) ?_
        refine va_get (D := (dC, dI)) (ci := 1) (v := .int (nI k)) (C := RX1) (T := TX1) (N := 6) hx hb hts hinX1 hown hK hP 0 rfl rfl 4 (by decide) (hts _ (List.mem_cons_of_mem _ k249)) (fun _ h9 => h9) rfl dX1_compare_65 ?_
        refine lv_icmp_ge (tgt := 75) hx hb dX1_compare_68 rfl (fun h68 => ?_) (fun h68 => ?_)
        · skip
          have h68 := (tl_le (show (nI k).toInt = ((k : Nat) : Int) from (nI_toInt (by omega))) (show (nI n).toInt = ((n : Nat) : Int) from (nI_toInt (by omega)))).mp h68
          refine lv_aload_n hx hb dX1_compare_75 rfl (lv_at hl 0 rfl) ?_
          refine va_get (D := (dC, dI)) (ci := 1) (v := .int (nI n)) (C := RX1) (T := TX1) (N := 6) hx hb hts hinX1 hown hK hP 0 rfl rfl 3 (by decide) (hts _ (List.mem_cons_of_mem _ k248)) (fun _ h9 => h9) rfl dX1_compare_76 ?_
          refine lv_aload_n hx hb dX1_compare_79 rfl (lv_at hl 0 rfl) ?_
          refine va_get (D := (dC, dI)) (ci := 1) (v := .int (nI k)) (C := RX1) (T := TX1) (N := 6) hx hb hts hinX1 hown hK hP 0 rfl rfl 4 (by decide) (hts _ (List.mem_cons_of_mem _ k249)) (fun _ h9 => h9) rfl dX1_compare_80 ?_
          refine lv_icmp_le (tgt := 90) hx hb dX1_compare_83 rfl (fun h83 => ?_) (fun h83 => ?_)
          · skip
            have h83 := (tl_le (show (nI n).toInt = ((n : Nat) : Int) from (nI_toInt (by omega))) (show (nI k).toInt = ((k : Nat) : Int) from (nI_toInt (by omega)))).mp h83
            refine lv_iconst (v := nI 0) hx hb dX1_compare_90 (by decide) ?_
            subst hQ
            exact W.iret (v := nI 0) hx hb hr (fun t ht hW => ⟨nI 0, rfl, (by rw [hf, show min n k - j = 0 by omega, tl_cmp, tl_ord]; (repeat' split) <;> first | rfl | (exfalso; omega)), ht⟩) (fun q h => absurd h List.not_mem_nil) dX1_compare_91
          · skip
            have h83 := (not_congr (tl_le (show (nI n).toInt = ((n : Nat) : Int) from (nI_toInt (by omega))) (show (nI k).toInt = ((k : Nat) : Int) from (nI_toInt (by omega))))).mp h83
            refine lv_iconst (v := nI 1) hx hb dX1_compare_86 (by decide) ?_
            refine lv_goto (tgt := 91) hx hb dX1_compare_87 rfl ?_
            subst hQ
            exact W.iret (v := nI 1) hx hb hr (fun t ht hW => ⟨nI 1, rfl, (by rw [hf, show min n k - j = 0 by omega, tl_cmp, tl_ord]; (repeat' split) <;> first | rfl | (exfalso; omega)), ht⟩) (fun q h => absurd h List.not_mem_nil) dX1_compare_91
        · skip
          have h68 := (not_congr (tl_le (show (nI k).toInt = ((k : Nat) : Int) from (nI_toInt (by omega))) (show (nI n).toInt = ((n : Nat) : Int) from (nI_toInt (by omega))))).mp h68
          refine lv_iconst (v := (-1 : Int32)) hx hb dX1_compare_71 (by decide) ?_
          refine lv_goto (tgt := 91) hx hb dX1_compare_72 rfl ?_
          subst hQ
          exact W.iret (v := (-1 : Int32)) hx hb hr (fun t ht hW => ⟨(-1 : Int32), rfl, (by rw [hf, show min n k - j = 0 by omega, tl_cmp, tl_ord]; (repeat' split) <;> first | rfl | (exfalso; omega)), ht⟩) (fun q h => absurd h List.not_mem_nil) dX1_compare_91
      · skip
        have h7 := (not_congr (tl_le (show (nI n).toInt = ((n : Nat) : Int) from (nI_toInt (by omega))) (show (nI j).toInt = ((j : Nat) : Int) from (nI_toInt (by omega))))).mp h7
        refine lv_iload_n hx hb dX1_compare_10 rfl (lv_at hl 1 rfl) ?_
        refine lv_aload_n hx hb dX1_compare_11 rfl (lv_at hl 0 rfl) ?_
        refine va_get (D := (dC, dI)) (ci := 1) (v := .int (nI k)) (C := RX1) (T := TX1) (N := 6) hx hb hts hinX1 hown hK hP 0 rfl rfl 4 (by decide) (hts _ (List.mem_cons_of_mem _ k249)) (fun _ h9 => h9) rfl dX1_compare_12 ?_
        refine lv_icmp_ge (tgt := 60) hx hb dX1_compare_15 rfl (fun h15 => ?_) (fun h15 => ?_)
        · skip
          have h15 := (tl_le (show (nI k).toInt = ((k : Nat) : Int) from (nI_toInt (by omega))) (show (nI j).toInt = ((j : Nat) : Int) from (nI_toInt (by omega)))).mp h15
          refine lv_aload_n hx hb dX1_compare_60 rfl (lv_at hl 0 rfl) ?_
          refine va_get (D := (dC, dI)) (ci := 1) (v := .int (nI n)) (C := RX1) (T := TX1) (N := 6) hx hb hts hinX1 hown hK hP 0 rfl rfl 3 (by decide) (hts _ (List.mem_cons_of_mem _ k248)) (fun _ h9 => h9) rfl dX1_compare_61 ?_
          refine lv_aload_n hx hb dX1_compare_64 rfl (lv_at hl 0 rfl) ?_
          refine va_get (D := (dC, dI)) (ci := 1) (v := .int (nI k)) (C := RX1) (T := TX1) (N := 6) hx hb hts hinX1 hown hK hP 0 rfl rfl 4 (by decide) (hts _ (List.mem_cons_of_mem _ k249)) (fun _ h9 => h9) rfl dX1_compare_65 ?_
          refine lv_icmp_ge (tgt := 75) hx hb dX1_compare_68 rfl (fun h68 => ?_) (fun h68 => ?_)
          · skip
            have h68 := (tl_le (show (nI k).toInt = ((k : Nat) : Int) from (nI_toInt (by omega))) (show (nI n).toInt = ((n : Nat) : Int) from (nI_toInt (by omega)))).mp h68
            refine lv_aload_n hx hb dX1_compare_75 rfl (lv_at hl 0 rfl) ?_
            refine va_get (D := (dC, dI)) (ci := 1) (v := .int (nI n)) (C := RX1) (T := TX1) (N := 6) hx hb hts hinX1 hown hK hP 0 rfl rfl 3 (by decide) (hts _ (List.mem_cons_of_mem _ k248)) (fun _ h9 => h9) rfl dX1_compare_76 ?_
            refine lv_aload_n hx hb dX1_compare_79 rfl (lv_at hl 0 rfl) ?_
            refine va_get (D := (dC, dI)) (ci := 1) (v := .int (nI k)) (C := RX1) (T := TX1) (N := 6) hx hb hts hinX1 hown hK hP 0 rfl rfl 4 (by decide) (hts _ (List.mem_cons_of_mem _ k249)) (fun _ h9 => h9) rfl dX1_compare_80 ?_
            refine lv_icmp_le (tgt := 90) hx hb dX1_compare_83 rfl (fun h83 => ?_) (fun h83 => ?_)
            · skip
              have h83 := (tl_le (show (nI n).toInt = ((n : Nat) : Int) from (nI_toInt (by omega))) (show (nI k).toInt = ((k : Nat) : Int) from (nI_toInt (by omega)))).mp h83
              refine lv_iconst (v := nI 0) hx hb dX1_compare_90 (by decide) ?_
              subst hQ
              exact W.iret (v := nI 0) hx hb hr (fun t ht hW => ⟨nI 0, rfl, (by rw [hf, show min n k - j = 0 by omega, tl_cmp, tl_ord]; (repeat' split) <;> first | rfl | (exfalso; omega)), ht⟩) (fun q h => absurd h List.not_mem_nil) dX1_compare_91
            · skip
              have h83 := (not_congr (tl_le (show (nI n).toInt = ((n : Nat) : Int) from (nI_toInt (by omega))) (show (nI k).toInt = ((k : Nat) : Int) from (nI_toInt (by omega))))).mp h83
              refine lv_iconst (v := nI 1) hx hb dX1_compare_86 (by decide) ?_
              refine lv_goto (tgt := 91) hx hb dX1_compare_87 rfl ?_
              subst hQ
              exact W.iret (v := nI 1) hx hb hr (fun t ht hW => ⟨nI 1, rfl, (by rw [hf, show min n k - j = 0 by omega, tl_cmp, tl_ord]; (repeat' split) <;> first | rfl | (exfalso; omega)), ht⟩) (fun q h => absurd h List.not_mem_nil) dX1_compare_91
          · skip
            have h68 := (not_congr (tl_le (show (nI k).toInt = ((k : Nat) : Int) from (nI_toInt (by omega))) (show (nI n).toInt = ((n : Nat) : Int) from (nI_toInt (by omega))))).mp h68
            refine lv_iconst (v := (-1 : Int32)) hx hb dX1_compare_71 (by decide) ?_
            refine lv_goto (tgt := 91) hx hb dX1_compare_72 rfl ?_
            subst hQ
            exact W.iret (v := (-1 : Int32)) hx hb hr (fun t ht hW => ⟨(-1 : Int32), rfl, (by rw [hf, show min n k - j = 0 by omega, tl_cmp, tl_ord]; (repeat' split) <;> first | rfl | (exfalso; omega)), ht⟩) (fun q h => absurd h List.not_mem_nil) dX1_compare_91
        · skip
          have h15 := (not_congr (tl_le (show (nI k).toInt = ((k : Nat) : Int) from (nI_toInt (by omega))) (show (nI j).toInt = ((j : Nat) : Int) from (nI_toInt (by omega))))).mp h15
          refine lv_aload_n hx hb dX1_compare_18 rfl (lv_at hl 0 rfl) ?_
          refine va_get (D := (dC, dI)) (ci := 1) (v := .ref q0) (C := RX1) (T := TX1) (N := 6) hx hb hts hinX1 hown hK hP 0 rfl rfl 0 (by decide) (hts _ (List.mem_cons_of_mem _ k245)) (fun _ h9 => h9) rfl dX1_compare_19 ?_
          refine lv_iload_n hx hb dX1_compare_22 rfl (lv_at hl 1 rfl) ?_
          refine tl_iald (v := T0 j) hx hb hK hP 1 0 rfl rfl (by omega) (by decide) (hT _ (by omega)) dX1_compare_23 ?_
          refine lv_aload_n hx hb dX1_compare_24 rfl (lv_at hl 0 rfl) ?_
          refine va_get (D := (dC, dI)) (ci := 1) (v := .ref q1) (C := RX1) (T := TX1) (N := 6) hx hb hts hinX1 hown hK hP 0 rfl rfl 1 (by decide) (hts _ (List.mem_cons_of_mem _ k246)) (fun _ h9 => h9) rfl dX1_compare_25 ?_
          refine lv_iload_n hx hb dX1_compare_28 rfl (lv_at hl 1 rfl) ?_
          refine tl_iald (v := G0 j) hx hb hK hP 2 1 rfl rfl (by omega) (by decide) (hG _ (by omega)) dX1_compare_29 ?_
          refine lv_icmp_eq (tgt := 54) hx hb dX1_compare_30 rfl (fun h30 => ?_) (fun h30 => ?_)
          · skip
            have h30 := (tl_eq (show (T0 j).toInt = (T0 j).toInt from rfl) (show (G0 j).toInt = (G0 j).toInt from rfl)).mp h30
            refine lv_iinc (lv' := [(1, .int (nI (j + 1))), (0, .ref h0)]) (k := 1) (v := nI (j + 1)) hx hb dX1_compare_54 hl rfl (tl_inc1 _) (by decide) rfl (fun ls hl => ?_)
            refine lv_goto (tgt := 2) hx hb dX1_compare_57 rfl ?_
            exact ih (j + 1) ls (by omega) (by omega) (by rw [hf, tl_cmp_step (by omega), if_pos h30]) (lv_sub hl [1, 0] rfl)
          · skip
            have h30 := (not_congr (tl_eq (show (T0 j).toInt = (T0 j).toInt from rfl) (show (G0 j).toInt = (G0 j).toInt from rfl))).mp h30
            refine lv_aload_n hx hb dX1_compare_33 rfl (lv_at hl 0 rfl) ?_
            refine va_get (D := (dC, dI)) (ci := 1) (v := .ref q0) (C := RX1) (T := TX1) (N := 6) hx hb hts hinX1 hown hK hP 0 rfl rfl 0 (by decide) (hts _ (List.mem_cons_of_mem _ k245)) (fun _ h9 => h9) rfl dX1_compare_34 ?_
            refine lv_iload_n hx hb dX1_compare_37 rfl (lv_at hl 1 rfl) ?_
            refine tl_iald (v := T0 j) hx hb hK hP 1 0 rfl rfl (by omega) (by decide) (hT _ (by omega)) dX1_compare_38 ?_
            refine lv_aload_n hx hb dX1_compare_39 rfl (lv_at hl 0 rfl) ?_
            refine va_get (D := (dC, dI)) (ci := 1) (v := .ref q1) (C := RX1) (T := TX1) (N := 6) hx hb hts hinX1 hown hK hP 0 rfl rfl 1 (by decide) (hts _ (List.mem_cons_of_mem _ k246)) (fun _ h9 => h9) rfl dX1_compare_40 ?_
            refine lv_iload_n hx hb dX1_compare_43 rfl (lv_at hl 1 rfl) ?_
            refine tl_iald (v := G0 j) hx hb hK hP 2 1 rfl rfl (by omega) (by decide) (hG _ (by omega)) dX1_compare_44 ?_
            refine lv_icmp_ge (tgt := 52) hx hb dX1_compare_45 rfl (fun h45 => ?_) (fun h45 => ?_)
            · skip
              have h45 := (tl_le (show (G0 j).toInt = (G0 j).toInt from rfl) (show (T0 j).toInt = (T0 j).toInt from rfl)).mp h45
              refine lv_iconst (v := nI 1) hx hb dX1_compare_52 (by decide) ?_
              subst hQ
              exact W.iret (v := nI 1) hx hb hr (fun t ht hW => ⟨nI 1, rfl, (by (try dsimp only); rw [hf, tl_cmp_step (by omega), if_neg h30]; split <;> first | rfl | (exfalso; omega)), ht⟩) (fun q h => absurd h List.not_mem_nil) dX1_compare_53
            · skip
              have h45 := (not_congr (tl_le (show (G0 j).toInt = (G0 j).toInt from rfl) (show (T0 j).toInt = (T0 j).toInt from rfl))).mp h45
              refine lv_iconst (v := (-1 : Int32)) hx hb dX1_compare_48 (by decide) ?_
              refine lv_goto (tgt := 53) hx hb dX1_compare_49 rfl ?_
              subst hQ
              exact W.iret (v := (-1 : Int32)) hx hb hr (fun t ht hW => ⟨(-1 : Int32), rfl, (by (try dsimp only); rw [hf, tl_cmp_step (by omega), if_neg h30]; split <;> first | rfl | (exfalso; omega)), ht⟩) (fun q h => absurd h List.not_mem_nil) dX1_compare_53
  exact LP2 _ 0 ls (Nat.lt_succ_self _) (by omega) (by rfl) (lv_sub hl [1, 0] rfl)
set_option maxHeartbeats 4000000 in
set_option maxRecDepth 100000 in
theorem c_M_stands (l : Launch) (dC : Nat → ClassId) (dI : Nat → Nat → Nat) (h0 q0 q1 q2 n k : Nat) (cA cB cC : ClassId) (T G T0 G0 : Nat → Int32) (hT : ∀ j, j < n → T j = T0 j) (hG : ∀ j, j < k → G j = G0 j) (hn : n ≤ 3000) (hk : k ≤ 40) (E : Nat → Int32) (d : Int32) (a : Nat) (han : a ≤ n) : Met l yX1_stands wsX1_stands ({ frames := 0, cells := 0, slots := 0, locals := 0 } : Room) (va_Pc [.ref h0, .int (nI a)] (fun U => va_P (dC, dI) vwCl [(h0, .inr (1, [.ref q0, .ref q1, .ref q2, .int (nI n), .int (nI k), .int d])), (q0, .inl (cA, 3000, .inl T)), (q1, .inl (cB, 40, .inl G)), (q2, .inl (cC, 20, .inl E))] U.heap ∧ va_K (dC, dI) vwCl [(cA, .int), (cB, .int), (cC, .int)] U)) (vp_Si (fun r : Int32 => (r = 1 ∧ (tl_std n T0 k G0 a)) ∨ (r = 0 ∧ ¬ (tl_std n T0 k G0 a)))) 0 0 (fun _ => False) := by
  refine Met.ofW (cc := cX1_stands) (maxL := 3) (ret := (some .boolean)) (by decide) rfl ?_
  intro p e s m args below meth c s₁ B hml hv
  obtain ⟨rfl, hP, hK⟩ := hv
  have hx := B.exec
  have hb := B.bytes
  have hr := B.returns
  have hts := atoms_spec (ws := wsX1_stands) B.pre
  have hown : s.vm.findClass RX1 = some m.cls := findClass_of_methodNamed B.named
  have hlocks := B.notSynchronized
  have hP : va_P (dC, dI) vwCl [(h0, .inr (1, [.ref q0, .ref q1, .ref q2, .int (nI n), .int (nI k), .int d])), (q0, .inl (cA, 3000, .inl T)), (q1, .inl (cB, 40, .inl G)), (q2, .inl (cC, 20, .inl E))] s.heap := hP
  have hinX1 : ∀ w ∈ u_ws RX1 TX1 6, w ∈ wsX1_stands := fun w h => List.mem_cons_of_mem _ (inX1 w h)
  have hl := lv_entry ([.ref h0, .int (nI a)]) (n := 3) (Nat.le_of_ble_eq_true rfl)
  rw [lg_entry_eq]
  generalize (lg_sl ([.ref h0, .int (nI a)]) ++ List.replicate (3 - (lg_sl ([.ref h0, .int (nI a)])).length) Slot.unset).toArray = ls at hl ⊢
  have hl : lv_has ls 3 [(0, .ref h0), (1, .int (nI a))] := hl
  refine tl_q (fun Q hQ => ?_)
  refine lv_iload_n hx hb dX1_stands_0 rfl (lv_at hl 1 rfl) ?_
  refine lv_aload_n hx hb dX1_stands_1 rfl (lv_at hl 0 rfl) ?_
  refine va_get (D := (dC, dI)) (ci := 1) (v := .int (nI k)) (C := RX1) (T := TX1) (N := 6) hx hb hts hinX1 hown hK hP 0 rfl rfl 4 (by decide) (hts _ (List.mem_cons_of_mem _ k249)) (fun _ h9 => h9) rfl dX1_stands_2 ?_
  refine lv_iadd hx hb dX1_stands_5 ?_
  refine tl_top (nI_add _ _) ?_
  refine lv_aload_n hx hb dX1_stands_6 rfl (lv_at hl 0 rfl) ?_
  refine va_get (D := (dC, dI)) (ci := 1) (v := .int (nI n)) (C := RX1) (T := TX1) (N := 6) hx hb hts hinX1 hown hK hP 0 rfl rfl 3 (by decide) (hts _ (List.mem_cons_of_mem _ k248)) (fun _ h9 => h9) rfl dX1_stands_7 ?_
  refine lv_icmp_le (tgt := 15) hx hb dX1_stands_10 rfl (fun h10 => ?_) (fun h10 => ?_)
  · skip
    have h10 := (tl_le (show (nI (a + k)).toInt = ((a + k : Nat) : Int) from (nI_toInt (by omega))) (show (nI n).toInt = ((n : Nat) : Int) from (nI_toInt (by omega)))).mp h10
    refine lv_iconst (v := nI 0) hx hb dX1_stands_15 (by decide) ?_
    refine lv_istore_n (lv' := [(2, .int (nI 0)), (0, .ref h0), (1, .int (nI a))]) hx hb dX1_stands_16 rfl hl (by decide) rfl (fun ls hl => ?_)
    have LP17 : ∀ (fu : Nat) (j : Nat) (ls : Array Slot), k - j < fu → j ≤ k → (∀ i, i < j → (T0 (a + i)).toInt = (G0 i).toInt) → lv_has ls 3 [(0, .ref h0), (1, .int (nI a)), (2, .int (nI j))] → W p l e (headSpec wsX1_stands ({ frames := 0, cells := 0, slots := 0, locals := 0 } : Room)).room s m ([.ref h0, .int (nI a)] : List Value).toArray below meth c s.heap [] 0 0 Q (F0 m 17 ls []) := by
      intro fu
      induction fu with
      | zero => intro j ls hfu; exact absurd hfu (Nat.not_lt_zero _)
      | succ fu ih =>
        intro j ls hfu hj hi hl
        refine lv_iload_n hx hb dX1_stands_17 rfl (lv_at hl 2 rfl) ?_
        refine lv_aload_n hx hb dX1_stands_18 rfl (lv_at hl 0 rfl) ?_
        refine va_get (D := (dC, dI)) (ci := 1) (v := .int (nI k)) (C := RX1) (T := TX1) (N := 6) hx hb hts hinX1 hown hK hP 0 rfl rfl 4 (by decide) (hts _ (List.mem_cons_of_mem _ k249)) (fun _ h9 => h9) rfl dX1_stands_19 ?_
        refine lv_icmp_ge (tgt := 50) hx hb dX1_stands_22 rfl (fun h22 => ?_) (fun h22 => ?_)
        · skip
          have h22 := (tl_le (show (nI k).toInt = ((k : Nat) : Int) from (nI_toInt (by omega))) (show (nI j).toInt = ((j : Nat) : Int) from (nI_toInt (by omega)))).mp h22
          refine lv_iconst (v := nI 1) hx hb dX1_stands_50 (by decide) ?_
          subst hQ
          exact W.zret (v := nI 1) hx hb hr (by decide) (fun t ht hW => ⟨nI 1, rfl, (Or.inl ⟨by decide, by omega, fun i hi2 => hi i (by omega)⟩), ht⟩) (fun q h => absurd h List.not_mem_nil) dX1_stands_51
        · skip
          have h22 := (not_congr (tl_le (show (nI k).toInt = ((k : Nat) : Int) from (nI_toInt (by omega))) (show (nI j).toInt = ((j : Nat) : Int) from (nI_toInt (by omega))))).mp h22
          refine lv_aload_n hx hb dX1_stands_25 rfl (lv_at hl 0 rfl) ?_
          refine va_get (D := (dC, dI)) (ci := 1) (v := .ref q0) (C := RX1) (T := TX1) (N := 6) hx hb hts hinX1 hown hK hP 0 rfl rfl 0 (by decide) (hts _ (List.mem_cons_of_mem _ k245)) (fun _ h9 => h9) rfl dX1_stands_26 ?_
          refine lv_iload_n hx hb dX1_stands_29 rfl (lv_at hl 1 rfl) ?_
          refine lv_iload_n hx hb dX1_stands_30 rfl (lv_at hl 2 rfl) ?_
          refine lv_iadd hx hb dX1_stands_31 ?_
          refine tl_top (nI_add _ _) ?_
          refine tl_iald (v := T0 (a + j)) hx hb hK hP 1 0 rfl rfl (by omega) (by decide) (hT _ (by omega)) dX1_stands_32 ?_
          refine lv_aload_n hx hb dX1_stands_33 rfl (lv_at hl 0 rfl) ?_
          refine va_get (D := (dC, dI)) (ci := 1) (v := .ref q1) (C := RX1) (T := TX1) (N := 6) hx hb hts hinX1 hown hK hP 0 rfl rfl 1 (by decide) (hts _ (List.mem_cons_of_mem _ k246)) (fun _ h9 => h9) rfl dX1_stands_34 ?_
          refine lv_iload_n hx hb dX1_stands_37 rfl (lv_at hl 2 rfl) ?_
          refine tl_iald (v := G0 j) hx hb hK hP 2 1 rfl rfl (by omega) (by decide) (hG _ (by omega)) dX1_stands_38 ?_
          refine lv_icmp_eq (tgt := 44) hx hb dX1_stands_39 rfl (fun h39 => ?_) (fun h39 => ?_)
          · skip
            have h39 := (tl_eq (show (T0 (a + j)).toInt = (T0 (a + j)).toInt from rfl) (show (G0 j).toInt = (G0 j).toInt from rfl)).mp h39
            refine lv_iinc (lv' := [(2, .int (nI (j + 1))), (0, .ref h0), (1, .int (nI a))]) (k := 2) (v := nI (j + 1)) hx hb dX1_stands_44 hl rfl (tl_inc1 _) (by decide) rfl (fun ls hl => ?_)
            refine lv_goto (tgt := 17) hx hb dX1_stands_47 rfl ?_
            exact ih (j + 1) ls (by omega) (by omega) (lt_s hi h39) (lv_sub hl [1, 2, 0] rfl)
          · skip
            have h39 := (not_congr (tl_eq (show (T0 (a + j)).toInt = (T0 (a + j)).toInt from rfl) (show (G0 j).toInt = (G0 j).toInt from rfl))).mp h39
            refine lv_iconst (v := nI 0) hx hb dX1_stands_42 (by decide) ?_
            subst hQ
            exact W.zret (v := nI 0) hx hb hr (by decide) (fun t ht hW => ⟨nI 0, rfl, (Or.inr ⟨by decide, fun q => h39 (q.2 j (by omega))⟩), ht⟩) (fun q h => absurd h List.not_mem_nil) dX1_stands_43
    exact LP17 _ 0 ls (Nat.lt_succ_self _) (by omega) (by intro i hi; omega) (lv_sub hl [1, 2, 0] rfl)
  · skip
    have h10 := (not_congr (tl_le (show (nI (a + k)).toInt = ((a + k : Nat) : Int) from (nI_toInt (by omega))) (show (nI n).toInt = ((n : Nat) : Int) from (nI_toInt (by omega))))).mp h10
    refine lv_iconst (v := nI 0) hx hb dX1_stands_13 (by decide) ?_
    subst hQ
    exact W.zret (v := nI 0) hx hb hr (by decide) (fun t ht hW => ⟨nI 0, rfl, (Or.inr ⟨by decide, fun q => by have := q.1; omega⟩), ht⟩) (fun q h => absurd h List.not_mem_nil) dX1_stands_14
end
section
set_option maxHeartbeats 4000000 in
set_option maxRecDepth 100000 in
theorem c_M_find (l : Launch) (dC : Nat → ClassId) (dI : Nat → Nat → Nat) (h0 q0 q1 q2 n k : Nat) (cA cB cC : ClassId) (T G T0 G0 : Nat → Int32) (hT : ∀ j, j < n → T j = T0 j) (hG : ∀ j, j < k → G j = G0 j) (hn : n ≤ 3000) (hk : k ≤ 40) (E : Nat → Int32) (d : Int32) (x fl : Int32) : Met l yX1_find wsX1_find ({ frames := 1, cells := 0, slots := 0, locals := 22 } : Room) (va_Pc [.ref h0, .int x, .int fl] (fun U => va_P (dC, dI) vwCl [(h0, .inr (1, [.ref q0, .ref q1, .ref q2, .int (nI n), .int (nI k), .int d])), (q0, .inl (cA, 3000, .inl T)), (q1, .inl (cB, 40, .inl G)), (q2, .inl (cC, 20, .inl E))] U.heap ∧ va_K (dC, dI) vwCl [(cA, .int), (cB, .int), (cC, .int)] U)) (vp_Si (fun r : Int32 => r = sp_find x fl n T0 k G0)) 0 0 (fun _ => False) := by
  refine Met.ofW (cc := cX1_find) (maxL := 4) (ret := (some .int)) (by decide) rfl ?_
  intro p e s m args below meth c s₁ B hml hv
  obtain ⟨rfl, hP, hK⟩ := hv
  have hx := B.exec
  have hb := B.bytes
  have hr := B.returns
  have hts := atoms_spec (ws := wsX1_find) B.pre
  have hown : s.vm.findClass RX1 = some m.cls := findClass_of_methodNamed B.named
  have hlocks := B.notSynchronized
  have hP : va_P (dC, dI) vwCl [(h0, .inr (1, [.ref q0, .ref q1, .ref q2, .int (nI n), .int (nI k), .int d])), (q0, .inl (cA, 3000, .inl T)), (q1, .inl (cB, 40, .inl G)), (q2, .inl (cC, 20, .inl E))] s.heap := hP
  have hinX1 : ∀ w ∈ u_ws RX1 TX1 6, w ∈ wsX1_find := fun w h => List.mem_cons_of_mem _ (inX1 w h)
  have hl := lv_entry ([.ref h0, .int x, .int fl]) (n := 4) (Nat.le_of_ble_eq_true rfl)
  rw [lg_entry_eq]
  generalize (lg_sl ([.ref h0, .int x, .int fl]) ++ List.replicate (4 - (lg_sl ([.ref h0, .int x, .int fl])).length) Slot.unset).toArray = ls at hl ⊢
  have hl : lv_has ls 4 [(0, .ref h0), (1, .int x), (2, .int fl)] := hl
  refine tl_q (fun Q hQ => ?_)
  refine lv_iload_n hx hb dX1_find_0 rfl (lv_at hl 2 rfl) ?_
  refine lv_if_eq (tgt := 43) hx hb dX1_find_1 rfl (fun h1 => ?_) (fun h1 => ?_)
  · skip
    have h1 := (tl_eq (show fl.toInt = fl.toInt from rfl) (show (0 : Int32).toInt = (0 : Int) from Int32.toInt_zero)).mp h1
    refine lv_iload_n hx hb dX1_find_43 rfl (lv_at hl 1 rfl) ?_
    refine lv_if_ge (tgt := 51) hx hb dX1_find_44 rfl (fun h44 => ?_) (fun h44 => ?_)
    · skip
      have h44 := (tl_le (show (0 : Int32).toInt = (0 : Int) from Int32.toInt_zero) (show x.toInt = x.toInt from rfl)).mp h44
      obtain ⟨b, ltb, rfl⟩ := tl_of (x := x) (by omega)
      have eb : (nI b).toInt = ((b : Nat) : Int) := nI_toInt ltb
      refine lv_iload_n hx hb dX1_find_51 rfl (lv_at hl 1 rfl) ?_
      refine lv_aload_n hx hb dX1_find_52 rfl (lv_at hl 0 rfl) ?_
      refine va_get (D := (dC, dI)) (ci := 1) (v := .int (nI n)) (C := RX1) (T := TX1) (N := 6) hx hb hts hinX1 hown hK hP 0 rfl rfl 3 (by decide) (hts _ (List.mem_cons_of_mem _ k248)) (fun _ h9 => h9) rfl dX1_find_53 ?_
      refine lv_icmp_le (tgt := 66) hx hb dX1_find_56 rfl (fun h56 => ?_) (fun h56 => ?_)
      · skip
        have h56 := (tl_le (show (nI b).toInt = ((b : Nat) : Int) from (nI_toInt (by omega))) (show (nI n).toInt = ((n : Nat) : Int) from (nI_toInt (by omega)))).mp h56
        refine lv_iload_n hx hb dX1_find_66 rfl (lv_at hl 1 rfl) ?_
        refine lv_istore_n (lv' := [(3, .int (nI b)), (0, .ref h0), (1, .int (nI b)), (2, .int fl)]) hx hb dX1_find_67 rfl hl (by decide) rfl (fun ls hl => ?_)
        have LP68 : ∀ (fu : Nat) (a : Nat) (ls : Array Slot), n + 1 - a < fu → a ≤ n + 1 → tl_fw n T0 k G0 (n + 1 - min (nI b).toNatClampNeg n) (min (nI b).toNatClampNeg n) = tl_fw n T0 k G0 (n + 1 - a) a → lv_has ls 4 [(0, .ref h0), (3, .int (nI a))] → W p l e (headSpec wsX1_find ({ frames := 1, cells := 0, slots := 0, locals := 22 } : Room)).room s m ([.ref h0, .int (nI b), .int fl] : List Value).toArray below meth c s.heap [] 0 0 Q (F0 m 68 ls []) := by
          intro fu
          induction fu with
          | zero => intro a ls hfu; exact absurd hfu (Nat.not_lt_zero _)
          | succ fu ih =>
            intro a ls hfu ha hf hl
            refine lv_iload_n hx hb dX1_find_68 rfl (lv_at hl 1 rfl) ?_
            refine lv_aload_n hx hb dX1_find_69 rfl (lv_at hl 0 rfl) ?_
            refine va_get (D := (dC, dI)) (ci := 1) (v := .int (nI n)) (C := RX1) (T := TX1) (N := 6) hx hb hts hinX1 hown hK hP 0 rfl rfl 3 (by decide) (hts _ (List.mem_cons_of_mem _ k248)) (fun _ h9 => h9) rfl dX1_find_70 ?_
            refine lv_icmp_gt (tgt := 92) hx hb dX1_find_73 rfl (fun h73 => ?_) (fun h73 => ?_)
            · skip
              have h73 := (tl_lt (show (nI n).toInt = ((n : Nat) : Int) from (nI_toInt (by omega))) (show (nI a).toInt = ((a : Nat) : Int) from (nI_toInt (by omega)))).mp h73
              refine lv_iconst (v := (-1 : Int32)) hx hb dX1_find_92 (by decide) ?_
              subst hQ
              exact W.iret (v := (-1 : Int32)) hx hb hr (fun t ht hW => ⟨(-1 : Int32), rfl, (by unfold sp_find; rw [if_pos h1, hf, show n + 1 - a = 0 by omega]; rfl), ht⟩) (fun q h => absurd h List.not_mem_nil) dX1_find_93
            · skip
              have h73 := (not_congr (tl_lt (show (nI n).toInt = ((n : Nat) : Int) from (nI_toInt (by omega))) (show (nI a).toInt = ((a : Nat) : Int) from (nI_toInt (by omega))))).mp h73
              refine lv_aload_n hx hb dX1_find_76 rfl (lv_at hl 0 rfl) ?_
              refine lv_iload_n hx hb dX1_find_77 rfl (lv_at hl 1 rfl) ?_
              have ea78_0 : (nI a).toInt = ((a : Nat) : Int) := (nI_toInt (by omega))
              refine vp_callSi ((va_runV (As := [.int (nI a)]) (rest := []) ⟨hx, hb, hml, hown, hts⟩ (c_M_stands l dC dI h0 q0 q1 q2 n k cA cB cC T G T0 G0 hT hG (by omega) hk E d a (by omega)) (cwV 1 hts (gV_ (fun w h => List.mem_cons_of_mem _ h) k359 k361 k19 k22 k362) rfl rfl rfl (by decide +kernel) ⟨Nat.le_of_ble_eq_true rfl, Nat.le_of_ble_eq_true rfl⟩) ⟨fun a U g mk q => by obtain ⟨q0, qP, qK⟩ := q; exact ⟨q0, qP, va_K.moved (u := U) (U := U.calling g mk a) (Vm.Alike.refl U.vm) qK⟩, va_recv hK hP (ci := 1) (q0 := 0) rfl rfl, fun U hU hW => ⟨rfl, by rw [hU]; exact hP, va_K.moved hW.alike hK⟩⟩ rfl rfl hl.1 rfl (lv_room (Nat.le_of_ble_eq_true rfl)) dX1_find_78 ⟨Nat.le_of_ble_eq_true rfl, Nat.le_of_ble_eq_true rfl⟩).run) (fun r78 w78 => ?_)
              try dsimp only at w78
              refine lv_if_eq (tgt := 86) hx hb dX1_find_81 rfl (fun h81 => ?_) (fun h81 => ?_)
              · skip
                have h81 := (tl_b0 w78).mp h81
                refine lv_iinc (lv' := [(3, .int (nI (a + 1))), (0, .ref h0)]) (k := 1) (v := nI (a + 1)) hx hb dX1_find_86 hl rfl (tl_inc1 _) (by decide) rfl (fun ls hl => ?_)
                refine lv_goto (tgt := 68) hx hb dX1_find_89 rfl ?_
                exact ih (a + 1) ls (by omega) (by omega) (by rw [hf, tl_fw_step (by omega), if_neg h81]) (lv_sub hl [1, 0] rfl)
              · skip
                have h81 := (tl_b1 w78).mp h81
                refine lv_iload_n hx hb dX1_find_84 rfl (lv_at hl 1 rfl) ?_
                subst hQ
                exact W.iret (v := nI a) hx hb hr (fun t ht hW => ⟨nI a, rfl, (by unfold sp_find; rw [if_pos h1, hf, tl_fw_step (by omega), if_pos h81]), ht⟩) (fun q h => absurd h List.not_mem_nil) dX1_find_85
        exact LP68 _ b ls (Nat.lt_succ_self _) (by omega) (tl_fw_m (by rw [nI_clamp ltb]; omega)) (lv_sub hl [1, 0] rfl)
      · skip
        have h56 := (not_congr (tl_le (show (nI b).toInt = ((b : Nat) : Int) from (nI_toInt (by omega))) (show (nI n).toInt = ((n : Nat) : Int) from (nI_toInt (by omega))))).mp h56
        refine lv_aload_n hx hb dX1_find_59 rfl (lv_at hl 0 rfl) ?_
        refine va_get (D := (dC, dI)) (ci := 1) (v := .int (nI n)) (C := RX1) (T := TX1) (N := 6) hx hb hts hinX1 hown hK hP 0 rfl rfl 3 (by decide) (hts _ (List.mem_cons_of_mem _ k248)) (fun _ h9 => h9) rfl dX1_find_60 ?_
        refine lv_goto (tgt := 67) hx hb dX1_find_63 rfl ?_
        refine lv_istore_n (lv' := [(3, .int (nI n)), (0, .ref h0), (1, .int (nI b)), (2, .int fl)]) hx hb dX1_find_67 rfl hl (by decide) rfl (fun ls hl => ?_)
        have LP68 : ∀ (fu : Nat) (a : Nat) (ls : Array Slot), n + 1 - a < fu → a ≤ n + 1 → tl_fw n T0 k G0 (n + 1 - min (nI b).toNatClampNeg n) (min (nI b).toNatClampNeg n) = tl_fw n T0 k G0 (n + 1 - a) a → lv_has ls 4 [(0, .ref h0), (3, .int (nI a))] → W p l e (headSpec wsX1_find ({ frames := 1, cells := 0, slots := 0, locals := 22 } : Room)).room s m ([.ref h0, .int (nI b), .int fl] : List Value).toArray below meth c s.heap [] 0 0 Q (F0 m 68 ls []) := by
          intro fu
          induction fu with
          | zero => intro a ls hfu; exact absurd hfu (Nat.not_lt_zero _)
          | succ fu ih =>
            intro a ls hfu ha hf hl
            refine lv_iload_n hx hb dX1_find_68 rfl (lv_at hl 1 rfl) ?_
            refine lv_aload_n hx hb dX1_find_69 rfl (lv_at hl 0 rfl) ?_
            refine va_get (D := (dC, dI)) (ci := 1) (v := .int (nI n)) (C := RX1) (T := TX1) (N := 6) hx hb hts hinX1 hown hK hP 0 rfl rfl 3 (by decide) (hts _ (List.mem_cons_of_mem _ k248)) (fun _ h9 => h9) rfl dX1_find_70 ?_
            refine lv_icmp_gt (tgt := 92) hx hb dX1_find_73 rfl (fun h73 => ?_) (fun h73 => ?_)
            · skip
              have h73 := (tl_lt (show (nI n).toInt = ((n : Nat) : Int) from (nI_toInt (by omega))) (show (nI a).toInt = ((a : Nat) : Int) from (nI_toInt (by omega)))).mp h73
              refine lv_iconst (v := (-1 : Int32)) hx hb dX1_find_92 (by decide) ?_
              subst hQ
              exact W.iret (v := (-1 : Int32)) hx hb hr (fun t ht hW => ⟨(-1 : Int32), rfl, (by unfold sp_find; rw [if_pos h1, hf, show n + 1 - a = 0 by omega]; rfl), ht⟩) (fun q h => absurd h List.not_mem_nil) dX1_find_93
            · skip
              have h73 := (not_congr (tl_lt (show (nI n).toInt = ((n : Nat) : Int) from (nI_toInt (by omega))) (show (nI a).toInt = ((a : Nat) : Int) from (nI_toInt (by omega))))).mp h73
              refine lv_aload_n hx hb dX1_find_76 rfl (lv_at hl 0 rfl) ?_
              refine lv_iload_n hx hb dX1_find_77 rfl (lv_at hl 1 rfl) ?_
              have ea78_0 : (nI a).toInt = ((a : Nat) : Int) := (nI_toInt (by omega))
              refine vp_callSi ((va_runV (As := [.int (nI a)]) (rest := []) ⟨hx, hb, hml, hown, hts⟩ (c_M_stands l dC dI h0 q0 q1 q2 n k cA cB cC T G T0 G0 hT hG (by omega) hk E d a (by omega)) (cwV 1 hts (gV_ (fun w h => List.mem_cons_of_mem _ h) k359 k361 k19 k22 k362) rfl rfl rfl (by decide +kernel) ⟨Nat.le_of_ble_eq_true rfl, Nat.le_of_ble_eq_true rfl⟩) ⟨fun a U g mk q => by obtain ⟨q0, qP, qK⟩ := q; exact ⟨q0, qP, va_K.moved (u := U) (U := U.calling g mk a) (Vm.Alike.refl U.vm) qK⟩, va_recv hK hP (ci := 1) (q0 := 0) rfl rfl, fun U hU hW => ⟨rfl, by rw [hU]; exact hP, va_K.moved hW.alike hK⟩⟩ rfl rfl hl.1 rfl (lv_room (Nat.le_of_ble_eq_true rfl)) dX1_find_78 ⟨Nat.le_of_ble_eq_true rfl, Nat.le_of_ble_eq_true rfl⟩).run) (fun r78 w78 => ?_)
              try dsimp only at w78
              refine lv_if_eq (tgt := 86) hx hb dX1_find_81 rfl (fun h81 => ?_) (fun h81 => ?_)
              · skip
                have h81 := (tl_b0 w78).mp h81
                refine lv_iinc (lv' := [(3, .int (nI (a + 1))), (0, .ref h0)]) (k := 1) (v := nI (a + 1)) hx hb dX1_find_86 hl rfl (tl_inc1 _) (by decide) rfl (fun ls hl => ?_)
                refine lv_goto (tgt := 68) hx hb dX1_find_89 rfl ?_
                exact ih (a + 1) ls (by omega) (by omega) (by rw [hf, tl_fw_step (by omega), if_neg h81]) (lv_sub hl [1, 0] rfl)
              · skip
                have h81 := (tl_b1 w78).mp h81
                refine lv_iload_n hx hb dX1_find_84 rfl (lv_at hl 1 rfl) ?_
                subst hQ
                exact W.iret (v := nI a) hx hb hr (fun t ht hW => ⟨nI a, rfl, (by unfold sp_find; rw [if_pos h1, hf, tl_fw_step (by omega), if_pos h81]), ht⟩) (fun q h => absurd h List.not_mem_nil) dX1_find_85
        exact LP68 _ n ls (Nat.lt_succ_self _) (by omega) (tl_fw_m (by rw [nI_clamp ltb]; omega)) (lv_sub hl [1, 0] rfl)
    · skip
      have h44 := (not_congr (tl_le (show (0 : Int32).toInt = (0 : Int) from Int32.toInt_zero) (show x.toInt = x.toInt from rfl))).mp h44
      refine lv_iconst (v := nI 0) hx hb dX1_find_47 (by decide) ?_
      refine lv_goto (tgt := 67) hx hb dX1_find_48 rfl ?_
      refine lv_istore_n (lv' := [(3, .int (nI 0)), (0, .ref h0), (1, .int x), (2, .int fl)]) hx hb dX1_find_67 rfl hl (by decide) rfl (fun ls hl => ?_)
      have LP68 : ∀ (fu : Nat) (a : Nat) (ls : Array Slot), n + 1 - a < fu → a ≤ n + 1 → tl_fw n T0 k G0 (n + 1 - min x.toNatClampNeg n) (min x.toNatClampNeg n) = tl_fw n T0 k G0 (n + 1 - a) a → lv_has ls 4 [(0, .ref h0), (3, .int (nI a))] → W p l e (headSpec wsX1_find ({ frames := 1, cells := 0, slots := 0, locals := 22 } : Room)).room s m ([.ref h0, .int x, .int fl] : List Value).toArray below meth c s.heap [] 0 0 Q (F0 m 68 ls []) := by
        intro fu
        induction fu with
        | zero => intro a ls hfu; exact absurd hfu (Nat.not_lt_zero _)
        | succ fu ih =>
          intro a ls hfu ha hf hl
          refine lv_iload_n hx hb dX1_find_68 rfl (lv_at hl 1 rfl) ?_
          refine lv_aload_n hx hb dX1_find_69 rfl (lv_at hl 0 rfl) ?_
          refine va_get (D := (dC, dI)) (ci := 1) (v := .int (nI n)) (C := RX1) (T := TX1) (N := 6) hx hb hts hinX1 hown hK hP 0 rfl rfl 3 (by decide) (hts _ (List.mem_cons_of_mem _ k248)) (fun _ h9 => h9) rfl dX1_find_70 ?_
          refine lv_icmp_gt (tgt := 92) hx hb dX1_find_73 rfl (fun h73 => ?_) (fun h73 => ?_)
          · skip
            have h73 := (tl_lt (show (nI n).toInt = ((n : Nat) : Int) from (nI_toInt (by omega))) (show (nI a).toInt = ((a : Nat) : Int) from (nI_toInt (by omega)))).mp h73
            refine lv_iconst (v := (-1 : Int32)) hx hb dX1_find_92 (by decide) ?_
            subst hQ
            exact W.iret (v := (-1 : Int32)) hx hb hr (fun t ht hW => ⟨(-1 : Int32), rfl, (by unfold sp_find; rw [if_pos h1, hf, show n + 1 - a = 0 by omega]; rfl), ht⟩) (fun q h => absurd h List.not_mem_nil) dX1_find_93
          · skip
            have h73 := (not_congr (tl_lt (show (nI n).toInt = ((n : Nat) : Int) from (nI_toInt (by omega))) (show (nI a).toInt = ((a : Nat) : Int) from (nI_toInt (by omega))))).mp h73
            refine lv_aload_n hx hb dX1_find_76 rfl (lv_at hl 0 rfl) ?_
            refine lv_iload_n hx hb dX1_find_77 rfl (lv_at hl 1 rfl) ?_
            have ea78_0 : (nI a).toInt = ((a : Nat) : Int) := (nI_toInt (by omega))
            refine vp_callSi ((va_runV (As := [.int (nI a)]) (rest := []) ⟨hx, hb, hml, hown, hts⟩ (c_M_stands l dC dI h0 q0 q1 q2 n k cA cB cC T G T0 G0 hT hG (by omega) hk E d a (by omega)) (cwV 1 hts (gV_ (fun w h => List.mem_cons_of_mem _ h) k359 k361 k19 k22 k362) rfl rfl rfl (by decide +kernel) ⟨Nat.le_of_ble_eq_true rfl, Nat.le_of_ble_eq_true rfl⟩) ⟨fun a U g mk q => by obtain ⟨q0, qP, qK⟩ := q; exact ⟨q0, qP, va_K.moved (u := U) (U := U.calling g mk a) (Vm.Alike.refl U.vm) qK⟩, va_recv hK hP (ci := 1) (q0 := 0) rfl rfl, fun U hU hW => ⟨rfl, by rw [hU]; exact hP, va_K.moved hW.alike hK⟩⟩ rfl rfl hl.1 rfl (lv_room (Nat.le_of_ble_eq_true rfl)) dX1_find_78 ⟨Nat.le_of_ble_eq_true rfl, Nat.le_of_ble_eq_true rfl⟩).run) (fun r78 w78 => ?_)
            try dsimp only at w78
            refine lv_if_eq (tgt := 86) hx hb dX1_find_81 rfl (fun h81 => ?_) (fun h81 => ?_)
            · skip
              have h81 := (tl_b0 w78).mp h81
              refine lv_iinc (lv' := [(3, .int (nI (a + 1))), (0, .ref h0)]) (k := 1) (v := nI (a + 1)) hx hb dX1_find_86 hl rfl (tl_inc1 _) (by decide) rfl (fun ls hl => ?_)
              refine lv_goto (tgt := 68) hx hb dX1_find_89 rfl ?_
              exact ih (a + 1) ls (by omega) (by omega) (by rw [hf, tl_fw_step (by omega), if_neg h81]) (lv_sub hl [1, 0] rfl)
            · skip
              have h81 := (tl_b1 w78).mp h81
              refine lv_iload_n hx hb dX1_find_84 rfl (lv_at hl 1 rfl) ?_
              subst hQ
              exact W.iret (v := nI a) hx hb hr (fun t ht hW => ⟨nI a, rfl, (by unfold sp_find; rw [if_pos h1, hf, tl_fw_step (by omega), if_pos h81]), ht⟩) (fun q h => absurd h List.not_mem_nil) dX1_find_85
      exact LP68 _ 0 ls (Nat.lt_succ_self _) (by omega) (tl_fw_m (by have hx : x.toNatClampNeg = x.toInt.toNat := rfl; omega)) (lv_sub hl [1, 0] rfl)
  · skip
    have h1 := (not_congr (tl_eq (show fl.toInt = fl.toInt from rfl) (show (0 : Int32).toInt = (0 : Int) from Int32.toInt_zero))).mp h1
    refine lv_iload_n hx hb dX1_find_4 rfl (lv_at hl 1 rfl) ?_
    refine lv_aload_n hx hb dX1_find_5 rfl (lv_at hl 0 rfl) ?_
    refine va_get (D := (dC, dI)) (ci := 1) (v := .int (nI n)) (C := RX1) (T := TX1) (N := 6) hx hb hts hinX1 hown hK hP 0 rfl rfl 3 (by decide) (hts _ (List.mem_cons_of_mem _ k248)) (fun _ h9 => h9) rfl dX1_find_6 ?_
    refine lv_icmp_le (tgt := 19) hx hb dX1_find_9 rfl (fun h9 => ?_) (fun h9 => ?_)
    · skip
      have h9 := (tl_le (show x.toInt = x.toInt from rfl) (show (nI n).toInt = ((n : Nat) : Int) from (nI_toInt (by omega)))).mp h9
      refine lv_iload_n hx hb dX1_find_19 rfl (lv_at hl 1 rfl) ?_
      refine lv_istore_n (lv' := [(3, .int x), (0, .ref h0), (1, .int x), (2, .int fl)]) hx hb dX1_find_20 rfl hl (by decide) rfl (fun ls hl => ?_)
      have LP21 : ∀ (fu : Nat) (z : Int32) (ls : Array Slot), (z.toInt + 1).toNat < fu → z.toInt ≤ n → (if x.toInt < 0 then (-1 : Int32) else tl_bw n T0 k G0 (min x.toNatClampNeg n + 1)) = tl_bw n T0 k G0 (z.toInt + 1).toNat → lv_has ls 4 [(0, .ref h0), (3, .int z)] → W p l e (headSpec wsX1_find ({ frames := 1, cells := 0, slots := 0, locals := 22 } : Room)).room s m ([.ref h0, .int x, .int fl] : List Value).toArray below meth c s.heap [] 0 0 Q (F0 m 21 ls []) := by
        intro fu
        induction fu with
        | zero => intro z ls hfu; exact absurd hfu (Nat.not_lt_zero _)
        | succ fu ih =>
          intro z ls hfu hz hf hl
          refine lv_iload_n hx hb dX1_find_21 rfl (lv_at hl 1 rfl) ?_
          refine lv_if_lt (tgt := 41) hx hb dX1_find_22 rfl (fun h22 => ?_) (fun h22 => ?_)
          · skip
            have h22 := (tl_lt (show z.toInt = z.toInt from rfl) (show (0 : Int32).toInt = (0 : Int) from Int32.toInt_zero)).mp h22
            refine lv_iconst (v := (-1 : Int32)) hx hb dX1_find_41 (by decide) ?_
            subst hQ
            exact W.iret (v := (-1 : Int32)) hx hb hr (fun t ht hW => ⟨(-1 : Int32), rfl, (by unfold sp_find; rw [if_neg h1, hf, show (z.toInt + 1).toNat = 0 by omega]; rfl), ht⟩) (fun q h => absurd h List.not_mem_nil) dX1_find_42
          · skip
            have h22 := (not_congr (tl_lt (show z.toInt = z.toInt from rfl) (show (0 : Int32).toInt = (0 : Int) from Int32.toInt_zero))).mp h22
            obtain ⟨a, lta, rfl⟩ := tl_of (x := z) (by omega)
            have ea : (nI a).toInt = ((a : Nat) : Int) := nI_toInt lta
            refine lv_aload_n hx hb dX1_find_25 rfl (lv_at hl 0 rfl) ?_
            refine lv_iload_n hx hb dX1_find_26 rfl (lv_at hl 1 rfl) ?_
            have ea27_0 : (nI a).toInt = ((a : Nat) : Int) := (nI_toInt (by omega))
            refine vp_callSi ((va_runV (As := [.int (nI a)]) (rest := []) ⟨hx, hb, hml, hown, hts⟩ (c_M_stands l dC dI h0 q0 q1 q2 n k cA cB cC T G T0 G0 hT hG (by omega) hk E d a (by omega)) (cwV 1 hts (gV_ (fun w h => List.mem_cons_of_mem _ h) k359 k361 k19 k22 k362) rfl rfl rfl (by decide +kernel) ⟨Nat.le_of_ble_eq_true rfl, Nat.le_of_ble_eq_true rfl⟩) ⟨fun a U g mk q => by obtain ⟨q0, qP, qK⟩ := q; exact ⟨q0, qP, va_K.moved (u := U) (U := U.calling g mk a) (Vm.Alike.refl U.vm) qK⟩, va_recv hK hP (ci := 1) (q0 := 0) rfl rfl, fun U hU hW => ⟨rfl, by rw [hU]; exact hP, va_K.moved hW.alike hK⟩⟩ rfl rfl hl.1 rfl (lv_room (Nat.le_of_ble_eq_true rfl)) dX1_find_27 ⟨Nat.le_of_ble_eq_true rfl, Nat.le_of_ble_eq_true rfl⟩).run) (fun r27 w27 => ?_)
            try dsimp only at w27
            refine lv_if_eq (tgt := 35) hx hb dX1_find_30 rfl (fun h30 => ?_) (fun h30 => ?_)
            · skip
              have h30 := (tl_b0 w27).mp h30
              refine lv_iinc (lv' := [(3, .int (nI a - nI 1)), (0, .ref h0)]) (k := 1) (v := nI a - nI 1) hx hb dX1_find_35 hl rfl (tl_dec a) (by decide) rfl (fun ls hl => ?_)
              refine lv_goto (tgt := 21) hx hb dX1_find_38 rfl ?_
              exact ih (nI a - nI 1) ls (by rw [tl_predv (by omega)]; omega) (by rw [tl_predv (by omega)]; omega) (by rw [hf, ea, tl_predv (by omega), show ((a : Int) + 1).toNat = a + 1 by omega, show ((a : Int) - 1 + 1).toNat = a by omega, tl_bw, if_neg h30]) (lv_sub hl [1, 0] rfl)
            · skip
              have h30 := (tl_b1 w27).mp h30
              refine lv_iload_n hx hb dX1_find_33 rfl (lv_at hl 1 rfl) ?_
              subst hQ
              exact W.iret (v := nI a) hx hb hr (fun t ht hW => ⟨nI a, rfl, (by unfold sp_find; rw [if_neg h1, hf, ea, show ((a : Int) + 1).toNat = a + 1 by omega, tl_bw, if_pos h30]), ht⟩) (fun q h => absurd h List.not_mem_nil) dX1_find_34
      exact LP21 _ x ls (Nat.lt_succ_self _) (by omega) (tl_bw_m (Or.inl ⟨rfl, by omega⟩)) (lv_sub hl [1, 0] rfl)
    · skip
      have h9 := (not_congr (tl_le (show x.toInt = x.toInt from rfl) (show (nI n).toInt = ((n : Nat) : Int) from (nI_toInt (by omega))))).mp h9
      refine lv_aload_n hx hb dX1_find_12 rfl (lv_at hl 0 rfl) ?_
      refine va_get (D := (dC, dI)) (ci := 1) (v := .int (nI n)) (C := RX1) (T := TX1) (N := 6) hx hb hts hinX1 hown hK hP 0 rfl rfl 3 (by decide) (hts _ (List.mem_cons_of_mem _ k248)) (fun _ h9 => h9) rfl dX1_find_13 ?_
      refine lv_goto (tgt := 20) hx hb dX1_find_16 rfl ?_
      refine lv_istore_n (lv' := [(3, .int (nI n)), (0, .ref h0), (1, .int x), (2, .int fl)]) hx hb dX1_find_20 rfl hl (by decide) rfl (fun ls hl => ?_)
      have LP21 : ∀ (fu : Nat) (z : Int32) (ls : Array Slot), (z.toInt + 1).toNat < fu → z.toInt ≤ n → (if x.toInt < 0 then (-1 : Int32) else tl_bw n T0 k G0 (min x.toNatClampNeg n + 1)) = tl_bw n T0 k G0 (z.toInt + 1).toNat → lv_has ls 4 [(0, .ref h0), (3, .int z)] → W p l e (headSpec wsX1_find ({ frames := 1, cells := 0, slots := 0, locals := 22 } : Room)).room s m ([.ref h0, .int x, .int fl] : List Value).toArray below meth c s.heap [] 0 0 Q (F0 m 21 ls []) := by
        intro fu
        induction fu with
        | zero => intro z ls hfu; exact absurd hfu (Nat.not_lt_zero _)
        | succ fu ih =>
          intro z ls hfu hz hf hl
          refine lv_iload_n hx hb dX1_find_21 rfl (lv_at hl 1 rfl) ?_
          refine lv_if_lt (tgt := 41) hx hb dX1_find_22 rfl (fun h22 => ?_) (fun h22 => ?_)
          · skip
            have h22 := (tl_lt (show z.toInt = z.toInt from rfl) (show (0 : Int32).toInt = (0 : Int) from Int32.toInt_zero)).mp h22
            refine lv_iconst (v := (-1 : Int32)) hx hb dX1_find_41 (by decide) ?_
            subst hQ
            exact W.iret (v := (-1 : Int32)) hx hb hr (fun t ht hW => ⟨(-1 : Int32), rfl, (by unfold sp_find; rw [if_neg h1, hf, show (z.toInt + 1).toNat = 0 by omega]; rfl), ht⟩) (fun q h => absurd h List.not_mem_nil) dX1_find_42
          · skip
            have h22 := (not_congr (tl_lt (show z.toInt = z.toInt from rfl) (show (0 : Int32).toInt = (0 : Int) from Int32.toInt_zero))).mp h22
            obtain ⟨a, lta, rfl⟩ := tl_of (x := z) (by omega)
            have ea : (nI a).toInt = ((a : Nat) : Int) := nI_toInt lta
            refine lv_aload_n hx hb dX1_find_25 rfl (lv_at hl 0 rfl) ?_
            refine lv_iload_n hx hb dX1_find_26 rfl (lv_at hl 1 rfl) ?_
            have ea27_0 : (nI a).toInt = ((a : Nat) : Int) := (nI_toInt (by omega))
            refine vp_callSi ((va_runV (As := [.int (nI a)]) (rest := []) ⟨hx, hb, hml, hown, hts⟩ (c_M_stands l dC dI h0 q0 q1 q2 n k cA cB cC T G T0 G0 hT hG (by omega) hk E d a (by omega)) (cwV 1 hts (gV_ (fun w h => List.mem_cons_of_mem _ h) k359 k361 k19 k22 k362) rfl rfl rfl (by decide +kernel) ⟨Nat.le_of_ble_eq_true rfl, Nat.le_of_ble_eq_true rfl⟩) ⟨fun a U g mk q => by obtain ⟨q0, qP, qK⟩ := q; exact ⟨q0, qP, va_K.moved (u := U) (U := U.calling g mk a) (Vm.Alike.refl U.vm) qK⟩, va_recv hK hP (ci := 1) (q0 := 0) rfl rfl, fun U hU hW => ⟨rfl, by rw [hU]; exact hP, va_K.moved hW.alike hK⟩⟩ rfl rfl hl.1 rfl (lv_room (Nat.le_of_ble_eq_true rfl)) dX1_find_27 ⟨Nat.le_of_ble_eq_true rfl, Nat.le_of_ble_eq_true rfl⟩).run) (fun r27 w27 => ?_)
            try dsimp only at w27
            refine lv_if_eq (tgt := 35) hx hb dX1_find_30 rfl (fun h30 => ?_) (fun h30 => ?_)
            · skip
              have h30 := (tl_b0 w27).mp h30
              refine lv_iinc (lv' := [(3, .int (nI a - nI 1)), (0, .ref h0)]) (k := 1) (v := nI a - nI 1) hx hb dX1_find_35 hl rfl (tl_dec a) (by decide) rfl (fun ls hl => ?_)
              refine lv_goto (tgt := 21) hx hb dX1_find_38 rfl ?_
              exact ih (nI a - nI 1) ls (by rw [tl_predv (by omega)]; omega) (by rw [tl_predv (by omega)]; omega) (by rw [hf, ea, tl_predv (by omega), show ((a : Int) + 1).toNat = a + 1 by omega, show ((a : Int) - 1 + 1).toNat = a by omega, tl_bw, if_neg h30]) (lv_sub hl [1, 0] rfl)
            · skip
              have h30 := (tl_b1 w27).mp h30
              refine lv_iload_n hx hb dX1_find_33 rfl (lv_at hl 1 rfl) ?_
              subst hQ
              exact W.iret (v := nI a) hx hb hr (fun t ht hW => ⟨nI a, rfl, (by unfold sp_find; rw [if_neg h1, hf, ea, show ((a : Int) + 1).toNat = a + 1 by omega, tl_bw, if_pos h30]), ht⟩) (fun q h => absurd h List.not_mem_nil) dX1_find_34
      exact LP21 _ (nI n) ls (Nat.lt_succ_self _) (by rw [nI_toInt (by omega)]; omega) (tl_bw_m (Or.inr ⟨nI_toInt (by omega), by omega⟩)) (lv_sub hl [1, 0] rfl)
set_option maxHeartbeats 4000000 in
set_option maxRecDepth 100000 in
theorem c_M_note (l : Launch) (dC : Nat → ClassId) (dI : Nat → Nat → Nat) (h0 q0 q1 q2 sz n k : Nat) (cA cB cC : ClassId) (T G T0 G0 : Nat → Int32) (hT : ∀ j, j < n → T j = T0 j) (hG : ∀ j, j < k → G j = G0 j) (hn : n ≤ 3000) (hk : k ≤ 40) (E : Nat → Int32) (d : Int32) (x : Int32) : Met l yX1_note wsX1_note ({ frames := 1, cells := 0, slots := 0, locals := 21 } : Room) (va_Pc [.ref h0, .int x] (fun U => U.heap.size = sz ∧ va_P (dC, dI) vwCl [(h0, .inr (1, [.ref q0, .ref q1, .ref q2, .int (nI n), .int (nI k), .int d])), (q0, .inl (cA, 3000, .inl T)), (q1, .inl (cB, 40, .inl G)), (q2, .inl (cC, 20, .inl E))] U.heap ∧ va_K (dC, dI) vwCl [(cA, .int), (cB, .int), (cC, .int)] U ∧ va_D (fun _ => True) [(h0, .inr (1, [.ref q0, .ref q1, .ref q2, .int (nI n), .int (nI k), .int d])), (q0, .inl (cA, 3000, .inl T)), (q1, .inl (cB, 40, .inl G)), (q2, .inl (cC, 20, .inl E))])) (va_Qi (fun (r : Int32) (u : tM) => r = (sp_note x n T0 k G0).1 ∧ tE u.1 (sp_note x n T0 k G0).2) (at_M dC dI (va_A [(h0, .inr (1, [.ref q0, .ref q1, .ref q2, .int (nI n), .int (nI k), .int d])), (q0, .inl (cA, 3000, .inl T)), (q1, .inl (cB, 40, .inl G)), (q2, .inl (cC, 20, .inl E))] sz) h0 q0 q1 q2 cA cB cC) (va_A [(h0, .inr (1, [.ref q0, .ref q1, .ref q2, .int (nI n), .int (nI k), .int d])), (q0, .inl (cA, 3000, .inl T)), (q1, .inl (cB, 40, .inl G)), (q2, .inl (cC, 20, .inl E))] sz)) 0 0 (va_A [(h0, .inr (1, [.ref q0, .ref q1, .ref q2, .int (nI n), .int (nI k), .int d])), (q0, .inl (cA, 3000, .inl T)), (q1, .inl (cB, 40, .inl G)), (q2, .inl (cC, 20, .inl E))] sz) := by
  refine Met.ofW (cc := cX1_note) (maxL := 2) (ret := (some .int)) (by decide) rfl ?_
  intro p e s m args below meth c s₁ B hml hv
  obtain ⟨rfl, hsz, hP, hK, hD0⟩ := hv
  have hx := B.exec
  have hb := B.bytes
  have hr := B.returns
  have hts := atoms_spec (ws := wsX1_note) B.pre
  have hown : s.vm.findClass RX1 = some m.cls := findClass_of_methodNamed B.named
  have hlocks := B.notSynchronized
  subst hsz
  have hD := hD0.self (sz := s.heap.size)
  generalize hAe : va_A [(h0, .inr (1, [.ref q0, .ref q1, .ref q2, .int (nI n), .int (nI k), .int d])), (q0, .inl (cA, 3000, .inl T)), (q1, .inl (cB, 40, .inl G)), (q2, .inl (cC, 20, .inl E))] s.heap.size = A at hD ⊢
  have hA : ∀ q : Nat, s.heap.size ≤ q → A q := fun q h => by rw [← hAe]; exact Or.inr h
  have hS : va_S A s.heap s.heap [] := va_S.rf
  have hP : va_P (dC, dI) vwCl [(h0, .inr (1, [.ref q0, .ref q1, .ref q2, .int (nI n), .int (nI k), .int d])), (q0, .inl (cA, 3000, .inl T)), (q1, .inl (cB, 40, .inl G)), (q2, .inl (cC, 20, .inl E))] s.heap := hP
  have hinX1 : ∀ w ∈ u_ws RX1 TX1 6, w ∈ wsX1_note := fun w h => List.mem_cons_of_mem _ (inX1 w h)
  have hl := lv_entry ([.ref h0, .int x]) (n := 2) (Nat.le_of_ble_eq_true rfl)
  rw [lg_entry_eq]
  generalize (lg_sl ([.ref h0, .int x]) ++ List.replicate (2 - (lg_sl ([.ref h0, .int x])).length) Slot.unset).toArray = ls at hl ⊢
  have hl : lv_has ls 2 [(0, .ref h0), (1, .int x)] := hl
  refine tl_q (fun Q hQ => ?_)
  refine lv_iload_n hx hb dX1_note_0 rfl (lv_at hl 1 rfl) ?_
  refine lv_i2l hx hb dX1_note_1 rfl ?_
  have ea2_0 : x.toInt64.toInt = x.toInt := ((Int32.toInt_toInt64 _).trans rfl)
  refine vp_callSi ((va_runS (As := [.long x.toInt64]) (rest := []) ⟨hx, hb, hml, hown, hts⟩ (c_M_isSign l x.toInt64) (va_cwS 1 hts (gS_ (fun w h => List.mem_cons_of_mem _ h) k268 k269 k22 k270) rfl rfl rfl (by decide +kernel) ⟨Nat.le_of_ble_eq_true rfl, Nat.le_of_ble_eq_true rfl⟩) ⟨fun a U g mk q => q, fun U hU hW => ⟨rfl, trivial⟩⟩ rfl rfl hl.1 rfl (lv_room (Nat.le_of_ble_eq_true rfl)) dX1_note_2 ⟨Nat.le_of_ble_eq_true rfl, Nat.le_of_ble_eq_true rfl⟩).run) (fun r2 w2 => ?_)
  try dsimp only at w2
  refine lv_if_ne (tgt := 10) hx hb dX1_note_5 rfl (fun h5 => ?_) (fun h5 => ?_)
  · skip
    have h5 := (tl_b1 w2).mp h5
    refine lv_aload_n hx hb dX1_note_10 rfl (lv_at hl 0 rfl) ?_
    refine va_get (D := (dC, dI)) (ci := 1) (v := .int (nI k)) (C := RX1) (T := TX1) (N := 6) hx hb hts hinX1 hown hK hP 0 rfl rfl 4 (by decide) (hts _ (List.mem_cons_of_mem _ k249)) (fun _ h9 => h9) rfl dX1_note_11 ?_
    refine lv_bipush (v := nI 40) hx hb dX1_note_14 (by decide) ?_
    refine lv_icmp_ne (tgt := 22) hx hb dX1_note_16 rfl (fun h16 => ?_) (fun h16 => ?_)
    · skip
      have h16 := (not_congr (tl_eq (show (nI k).toInt = ((k : Nat) : Int) from (nI_toInt (by omega))) (show (nI 40).toInt = (40 : Int) from (by decide)))).mp h16
      refine lv_aload_n hx hb dX1_note_22 rfl (lv_at hl 0 rfl) ?_
      refine va_get (D := (dC, dI)) (ci := 1) (v := .ref q1) (C := RX1) (T := TX1) (N := 6) hx hb hts hinX1 hown hK hP 0 rfl rfl 1 (by decide) (hts _ (List.mem_cons_of_mem _ k246)) (fun _ h9 => h9) rfl dX1_note_23 ?_
      refine lv_aload_n hx hb dX1_note_26 rfl (lv_at hl 0 rfl) ?_
      refine va_get (D := (dC, dI)) (ci := 1) (v := .int (nI k)) (C := RX1) (T := TX1) (N := 6) hx hb hts hinX1 hown hK hP 0 rfl rfl 4 (by decide) (hts _ (List.mem_cons_of_mem _ k249)) (fun _ h9 => h9) rfl dX1_note_27 ?_
      refine lv_iload_n hx hb dX1_note_30 rfl (lv_at hl 1 rfl) ?_
      refine tl_iast hx hb hK hP hD hS 2 1 rfl rfl (by omega) (by decide) dX1_note_31 (fun H locs hP hD hS => ?_)
      have hP : va_P (dC, dI) vwCl [(h0, .inr (1, [.ref q0, .ref q1, .ref q2, .int (nI n), .int (nI k), .int d])), (q0, .inl (cA, 3000, .inl T)), (q1, .inl (cB, 40, .inl (upd G k x))), (q2, .inl (cC, 20, .inl E))] H := hP
      have hD : va_D A [(h0, .inr (1, [.ref q0, .ref q1, .ref q2, .int (nI n), .int (nI k), .int d])), (q0, .inl (cA, 3000, .inl T)), (q1, .inl (cB, 40, .inl (upd G k x))), (q2, .inl (cC, 20, .inl E))] := hD
      refine lv_aload_n hx hb dX1_note_32 rfl (lv_at hl 0 rfl) ?_
      refine lv_dup hx hb dX1_note_33 rfl ?_
      refine va_get (D := (dC, dI)) (ci := 1) (v := .int (nI k)) (C := RX1) (T := TX1) (N := 6) hx hb hts hinX1 hown hK hP 0 rfl rfl 4 (by decide) (hts _ (List.mem_cons_of_mem _ k249)) (fun _ h9 => h9) rfl dX1_note_34 ?_
      refine lv_iconst (v := nI 1) hx hb dX1_note_37 (by decide) ?_
      refine lv_iadd hx hb dX1_note_38 ?_
      refine tl_top (nI_add _ _) ?_
      refine lv_dup_x1 hx hb dX1_note_39 rfl rfl ?_
      refine va_put (D := (dC, dI)) (ci := 1) (v := .int (nI (k + 1))) (ty := .int) (C := RX1) (T := TX1) (N := 6) hx hb hts hinX1 tyX1 tyX1_ok nmX1 hown hK hP hD hS 0 rfl rfl 4 (by decide) (hts _ (List.mem_cons_of_mem _ k249)) (fun _ h9 => h9) rfl (by decide +kernel) rfl rfl (Nat.le_of_ble_eq_true rfl) dX1_note_40 (fun H locs hP hD hS => ?_)
      have hP : va_P (dC, dI) vwCl [(h0, .inr (1, [.ref q0, .ref q1, .ref q2, .int (nI n), .int (nI (k + 1)), .int d])), (q0, .inl (cA, 3000, .inl T)), (q1, .inl (cB, 40, .inl (upd G k x))), (q2, .inl (cC, 20, .inl E))] H := hP
      have hD : va_D A [(h0, .inr (1, [.ref q0, .ref q1, .ref q2, .int (nI n), .int (nI (k + 1)), .int d])), (q0, .inl (cA, 3000, .inl T)), (q1, .inl (cB, 40, .inl (upd G k x))), (q2, .inl (cC, 20, .inl E))] := hD
      subst hQ
      exact W.iret (v := nI (k + 1)) hx hb hr (fun t ht hW => ⟨⟨nI (k + 1), ((n, T, k + 1, upd G k x), E, d), rfl, (by rw [(show sp_note x n T0 k G0 = (nI (k + 1), (n, T0, k + 1, upd G0 k x)) from (by unfold sp_note; (repeat' split) <;> first | rfl | (exfalso; omega)))]; exact ⟨rfl, tE_mk hT (pu_up hG) hn (by omega)⟩), by rw [ht]; exact hP, va_K.moved hW.alike hK, hD⟩, hS.F ht⟩) hS.2.2 dX1_note_43
    · skip
      have h16 := (tl_eq (show (nI k).toInt = ((k : Nat) : Int) from (nI_toInt (by omega))) (show (nI 40).toInt = (40 : Int) from (by decide))).mp h16
      refine lv_bipush (v := (-3 : Int32)) hx hb dX1_note_19 (by decide) ?_
      subst hQ
      exact W.iret (v := (-3 : Int32)) hx hb hr (fun t ht hW => ⟨⟨(-3 : Int32), ((n, T, k, G), E, d), rfl, (by rw [(show sp_note x n T0 k G0 = ((-3 : Int32), (n, T0, k, G0)) from (by unfold sp_note; (repeat' split) <;> first | rfl | (exfalso; omega)))]; exact ⟨rfl, tE_mk hT hG hn hk⟩), by rw [ht]; exact hP, va_K.moved hW.alike hK, hD⟩, hS.F ht⟩) hS.2.2 dX1_note_21
  · skip
    have h5 := (tl_b0 w2).mp h5
    refine lv_iconst (v := (-1 : Int32)) hx hb dX1_note_8 (by decide) ?_
    subst hQ
    exact W.iret (v := (-1 : Int32)) hx hb hr (fun t ht hW => ⟨⟨(-1 : Int32), ((n, T, k, G), E, d), rfl, (by rw [(show sp_note x n T0 k G0 = ((-1 : Int32), (n, T0, k, G0)) from (by unfold sp_note; (repeat' split) <;> first | rfl | (exfalso; omega)))]; exact ⟨rfl, tE_mk hT hG hn hk⟩), by rw [ht]; exact hP, va_K.moved hW.alike hK, hD⟩, hS.F ht⟩) hS.2.2 dX1_note_9
set_option maxHeartbeats 4000000 in
set_option maxRecDepth 100000 in
theorem c_M_drop (l : Launch) (dC : Nat → ClassId) (dI : Nat → Nat → Nat) (h0 q0 q1 q2 sz n k : Nat) (cA cB cC : ClassId) (T G T0 G0 : Nat → Int32) (hT : ∀ j, j < n → T j = T0 j) (hG : ∀ j, j < k → G j = G0 j) (hn : n ≤ 3000) (hk : k ≤ 40) (E : Nat → Int32) (d : Int32)  : Met l yX1_drop wsX1_drop ({ frames := 0, cells := 0, slots := 0, locals := 0 } : Room) (va_Pc [.ref h0] (fun U => U.heap.size = sz ∧ va_P (dC, dI) vwCl [(h0, .inr (1, [.ref q0, .ref q1, .ref q2, .int (nI n), .int (nI k), .int d])), (q0, .inl (cA, 3000, .inl T)), (q1, .inl (cB, 40, .inl G)), (q2, .inl (cC, 20, .inl E))] U.heap ∧ va_K (dC, dI) vwCl [(cA, .int), (cB, .int), (cC, .int)] U ∧ va_D (fun _ => True) [(h0, .inr (1, [.ref q0, .ref q1, .ref q2, .int (nI n), .int (nI k), .int d])), (q0, .inl (cA, 3000, .inl T)), (q1, .inl (cB, 40, .inl G)), (q2, .inl (cC, 20, .inl E))])) (va_Qi (fun (r : Int32) (u : tM) => r = (sp_drop n T0 k G0).1 ∧ tE u.1 (sp_drop n T0 k G0).2) (at_M dC dI (va_A [(h0, .inr (1, [.ref q0, .ref q1, .ref q2, .int (nI n), .int (nI k), .int d])), (q0, .inl (cA, 3000, .inl T)), (q1, .inl (cB, 40, .inl G)), (q2, .inl (cC, 20, .inl E))] sz) h0 q0 q1 q2 cA cB cC) (va_A [(h0, .inr (1, [.ref q0, .ref q1, .ref q2, .int (nI n), .int (nI k), .int d])), (q0, .inl (cA, 3000, .inl T)), (q1, .inl (cB, 40, .inl G)), (q2, .inl (cC, 20, .inl E))] sz)) 0 0 (va_A [(h0, .inr (1, [.ref q0, .ref q1, .ref q2, .int (nI n), .int (nI k), .int d])), (q0, .inl (cA, 3000, .inl T)), (q1, .inl (cB, 40, .inl G)), (q2, .inl (cC, 20, .inl E))] sz) := by
  refine Met.ofW (cc := cX1_drop) (maxL := 2) (ret := (some .int)) (by decide) rfl ?_
  intro p e s m args below meth c s₁ B hml hv
  obtain ⟨rfl, hsz, hP, hK, hD0⟩ := hv
  have hx := B.exec
  have hb := B.bytes
  have hr := B.returns
  have hts := atoms_spec (ws := wsX1_drop) B.pre
  have hown : s.vm.findClass RX1 = some m.cls := findClass_of_methodNamed B.named
  have hlocks := B.notSynchronized
  subst hsz
  have hD := hD0.self (sz := s.heap.size)
  generalize hAe : va_A [(h0, .inr (1, [.ref q0, .ref q1, .ref q2, .int (nI n), .int (nI k), .int d])), (q0, .inl (cA, 3000, .inl T)), (q1, .inl (cB, 40, .inl G)), (q2, .inl (cC, 20, .inl E))] s.heap.size = A at hD ⊢
  have hA : ∀ q : Nat, s.heap.size ≤ q → A q := fun q h => by rw [← hAe]; exact Or.inr h
  have hS : va_S A s.heap s.heap [] := va_S.rf
  have hP : va_P (dC, dI) vwCl [(h0, .inr (1, [.ref q0, .ref q1, .ref q2, .int (nI n), .int (nI k), .int d])), (q0, .inl (cA, 3000, .inl T)), (q1, .inl (cB, 40, .inl G)), (q2, .inl (cC, 20, .inl E))] s.heap := hP
  have hinX1 : ∀ w ∈ u_ws RX1 TX1 6, w ∈ wsX1_drop := fun w h => List.mem_cons_of_mem _ (inX1 w h)
  have hl := lv_entry ([.ref h0]) (n := 2) (Nat.le_of_ble_eq_true rfl)
  rw [lg_entry_eq]
  generalize (lg_sl ([.ref h0]) ++ List.replicate (2 - (lg_sl ([.ref h0])).length) Slot.unset).toArray = ls at hl ⊢
  have hl : lv_has ls 2 [(0, .ref h0)] := hl
  refine tl_q (fun Q hQ => ?_)
  refine lv_aload_n hx hb dX1_drop_0 rfl (lv_at hl 0 rfl) ?_
  refine va_get (D := (dC, dI)) (ci := 1) (v := .int (nI k)) (C := RX1) (T := TX1) (N := 6) hx hb hts hinX1 hown hK hP 0 rfl rfl 4 (by decide) (hts _ (List.mem_cons_of_mem _ k249)) (fun _ h9 => h9) rfl dX1_drop_1 ?_
  refine lv_istore_n (lv' := [(1, .int (nI k)), (0, .ref h0)]) hx hb dX1_drop_4 rfl hl (by decide) rfl (fun ls hl => ?_)
  refine lv_aload_n hx hb dX1_drop_5 rfl (lv_at hl 1 rfl) ?_
  refine lv_iconst (v := nI 0) hx hb dX1_drop_6 (by decide) ?_
  refine va_put (D := (dC, dI)) (ci := 1) (v := .int (nI 0)) (ty := .int) (C := RX1) (T := TX1) (N := 6) hx hb hts hinX1 tyX1 tyX1_ok nmX1 hown hK hP hD hS 0 rfl rfl 4 (by decide) (hts _ (List.mem_cons_of_mem _ k249)) (fun _ h9 => h9) rfl (by decide +kernel) rfl rfl (Nat.le_of_ble_eq_true rfl) dX1_drop_7 (fun H locs hP hD hS => ?_)
  have hP : va_P (dC, dI) vwCl [(h0, .inr (1, [.ref q0, .ref q1, .ref q2, .int (nI n), .int (nI 0), .int d])), (q0, .inl (cA, 3000, .inl T)), (q1, .inl (cB, 40, .inl G)), (q2, .inl (cC, 20, .inl E))] H := hP
  have hD : va_D A [(h0, .inr (1, [.ref q0, .ref q1, .ref q2, .int (nI n), .int (nI 0), .int d])), (q0, .inl (cA, 3000, .inl T)), (q1, .inl (cB, 40, .inl G)), (q2, .inl (cC, 20, .inl E))] := hD
  refine lv_iload_n hx hb dX1_drop_10 rfl (lv_at hl 0 rfl) ?_
  subst hQ
  exact W.iret (v := nI k) hx hb hr (fun t ht hW => ⟨⟨nI k, ((n, T, 0, G), E, d), rfl, ⟨rfl, tE_mk hT (fun j hj => absurd hj (Nat.not_lt_zero j)) hn (by omega)⟩, by rw [ht]; exact hP, va_K.moved hW.alike hK, hD⟩, hS.F ht⟩) hS.2.2 dX1_drop_11
set_option maxHeartbeats 4000000 in
set_option maxRecDepth 100000 in
theorem c_M_lift (l : Launch) (dC : Nat → ClassId) (dI : Nat → Nat → Nat) (h0 q0 q1 q2 sz n k : Nat) (cA cB cC : ClassId) (T G T0 G0 : Nat → Int32) (hT : ∀ j, j < n → T j = T0 j) (hG : ∀ j, j < k → G j = G0 j) (hn : n ≤ 3000) (hk : k ≤ 40) (E : Nat → Int32) (d : Int32) (x y : Int32) : Met l yX1_lift wsX1_lift ({ frames := 0, cells := 0, slots := 0, locals := 0 } : Room) (va_Pc [.ref h0, .int x, .int y] (fun U => U.heap.size = sz ∧ va_P (dC, dI) vwCl [(h0, .inr (1, [.ref q0, .ref q1, .ref q2, .int (nI n), .int (nI k), .int d])), (q0, .inl (cA, 3000, .inl T)), (q1, .inl (cB, 40, .inl G)), (q2, .inl (cC, 20, .inl E))] U.heap ∧ va_K (dC, dI) vwCl [(cA, .int), (cB, .int), (cC, .int)] U ∧ va_D (fun _ => True) [(h0, .inr (1, [.ref q0, .ref q1, .ref q2, .int (nI n), .int (nI k), .int d])), (q0, .inl (cA, 3000, .inl T)), (q1, .inl (cB, 40, .inl G)), (q2, .inl (cC, 20, .inl E))])) (va_Qi (fun (r : Int32) (u : tM) => r = (sp_lift x y n T0 k G0).1 ∧ tE u.1 (sp_lift x y n T0 k G0).2) (at_M dC dI (va_A [(h0, .inr (1, [.ref q0, .ref q1, .ref q2, .int (nI n), .int (nI k), .int d])), (q0, .inl (cA, 3000, .inl T)), (q1, .inl (cB, 40, .inl G)), (q2, .inl (cC, 20, .inl E))] sz) h0 q0 q1 q2 cA cB cC) (va_A [(h0, .inr (1, [.ref q0, .ref q1, .ref q2, .int (nI n), .int (nI k), .int d])), (q0, .inl (cA, 3000, .inl T)), (q1, .inl (cB, 40, .inl G)), (q2, .inl (cC, 20, .inl E))] sz)) 0 0 (va_A [(h0, .inr (1, [.ref q0, .ref q1, .ref q2, .int (nI n), .int (nI k), .int d])), (q0, .inl (cA, 3000, .inl T)), (q1, .inl (cB, 40, .inl G)), (q2, .inl (cC, 20, .inl E))] sz) := by
  refine Met.ofW (cc := cX1_lift) (maxL := 4) (ret := (some .int)) (by decide) rfl ?_
  intro p e s m args below meth c s₁ B hml hv
  obtain ⟨rfl, hsz, hP, hK, hD0⟩ := hv
  have hx := B.exec
  have hb := B.bytes
  have hr := B.returns
  have hts := atoms_spec (ws := wsX1_lift) B.pre
  have hown : s.vm.findClass RX1 = some m.cls := findClass_of_methodNamed B.named
  have hlocks := B.notSynchronized
  subst hsz
  have hD := hD0.self (sz := s.heap.size)
  generalize hAe : va_A [(h0, .inr (1, [.ref q0, .ref q1, .ref q2, .int (nI n), .int (nI k), .int d])), (q0, .inl (cA, 3000, .inl T)), (q1, .inl (cB, 40, .inl G)), (q2, .inl (cC, 20, .inl E))] s.heap.size = A at hD ⊢
  have hA : ∀ q : Nat, s.heap.size ≤ q → A q := fun q h => by rw [← hAe]; exact Or.inr h
  have hS : va_S A s.heap s.heap [] := va_S.rf
  have hP : va_P (dC, dI) vwCl [(h0, .inr (1, [.ref q0, .ref q1, .ref q2, .int (nI n), .int (nI k), .int d])), (q0, .inl (cA, 3000, .inl T)), (q1, .inl (cB, 40, .inl G)), (q2, .inl (cC, 20, .inl E))] s.heap := hP
  have hinX1 : ∀ w ∈ u_ws RX1 TX1 6, w ∈ wsX1_lift := fun w h => List.mem_cons_of_mem _ (inX1 w h)
  have hl := lv_entry ([.ref h0, .int x, .int y]) (n := 4) (Nat.le_of_ble_eq_true rfl)
  rw [lg_entry_eq]
  generalize (lg_sl ([.ref h0, .int x, .int y]) ++ List.replicate (4 - (lg_sl ([.ref h0, .int x, .int y])).length) Slot.unset).toArray = ls at hl ⊢
  have hl : lv_has ls 4 [(0, .ref h0), (1, .int x), (2, .int y)] := hl
  refine tl_q (fun Q hQ => ?_)
  refine lv_iload_n hx hb dX1_lift_0 rfl (lv_at hl 1 rfl) ?_
  refine lv_if_lt (tgt := 17) hx hb dX1_lift_1 rfl (fun h1 => ?_) (fun h1 => ?_)
  · skip
    have h1 := (tl_lt (show x.toInt = x.toInt from rfl) (show (0 : Int32).toInt = (0 : Int) from Int32.toInt_zero)).mp h1
    refine lv_iconst (v := (-1 : Int32)) hx hb dX1_lift_17 (by decide) ?_
    subst hQ
    exact W.iret (v := (-1 : Int32)) hx hb hr (fun t ht hW => ⟨⟨(-1 : Int32), ((n, T, k, G), E, d), rfl, (by rw [(show sp_lift x y n T0 k G0 = ((-1 : Int32), (n, T0, k, G0)) from (by unfold sp_lift; (repeat' split) <;> first | rfl | (exfalso; omega)))]; exact ⟨rfl, tE_mk hT hG hn hk⟩), by rw [ht]; exact hP, va_K.moved hW.alike hK, hD⟩, hS.F ht⟩) hS.2.2 dX1_lift_18
  · skip
    have h1 := (not_congr (tl_lt (show x.toInt = x.toInt from rfl) (show (0 : Int32).toInt = (0 : Int) from Int32.toInt_zero))).mp h1
    refine lv_iload_n hx hb dX1_lift_4 rfl (lv_at hl 2 rfl) ?_
    refine lv_iload_n hx hb dX1_lift_5 rfl (lv_at hl 1 rfl) ?_
    refine lv_icmp_lt (tgt := 17) hx hb dX1_lift_6 rfl (fun h6 => ?_) (fun h6 => ?_)
    · skip
      have h6 := (tl_lt (show y.toInt = y.toInt from rfl) (show x.toInt = x.toInt from rfl)).mp h6
      refine lv_iconst (v := (-1 : Int32)) hx hb dX1_lift_17 (by decide) ?_
      subst hQ
      exact W.iret (v := (-1 : Int32)) hx hb hr (fun t ht hW => ⟨⟨(-1 : Int32), ((n, T, k, G), E, d), rfl, (by rw [(show sp_lift x y n T0 k G0 = ((-1 : Int32), (n, T0, k, G0)) from (by unfold sp_lift; (repeat' split) <;> first | rfl | (exfalso; omega)))]; exact ⟨rfl, tE_mk hT hG hn hk⟩), by rw [ht]; exact hP, va_K.moved hW.alike hK, hD⟩, hS.F ht⟩) hS.2.2 dX1_lift_18
    · skip
      have h6 := (not_congr (tl_lt (show y.toInt = y.toInt from rfl) (show x.toInt = x.toInt from rfl))).mp h6
      refine lv_iload_n hx hb dX1_lift_9 rfl (lv_at hl 2 rfl) ?_
      refine lv_aload_n hx hb dX1_lift_10 rfl (lv_at hl 0 rfl) ?_
      refine va_get (D := (dC, dI)) (ci := 1) (v := .int (nI n)) (C := RX1) (T := TX1) (N := 6) hx hb hts hinX1 hown hK hP 0 rfl rfl 3 (by decide) (hts _ (List.mem_cons_of_mem _ k248)) (fun _ h9 => h9) rfl dX1_lift_11 ?_
      refine lv_icmp_le (tgt := 19) hx hb dX1_lift_14 rfl (fun h14 => ?_) (fun h14 => ?_)
      · skip
        have h14 := (tl_le (show y.toInt = y.toInt from rfl) (show (nI n).toInt = ((n : Nat) : Int) from (nI_toInt (by omega)))).mp h14
        obtain ⟨a, lta, rfl⟩ := tl_of (x := x) (by omega)
        have ea : (nI a).toInt = ((a : Nat) : Int) := nI_toInt lta
        obtain ⟨b, ltb, rfl⟩ := tl_of (x := y) (by omega)
        have eb : (nI b).toInt = ((b : Nat) : Int) := nI_toInt ltb
        refine lv_iload_n hx hb dX1_lift_19 rfl (lv_at hl 2 rfl) ?_
        refine lv_iload_n hx hb dX1_lift_20 rfl (lv_at hl 1 rfl) ?_
        refine lv_isub hx hb dX1_lift_21 ?_
        refine tl_top (pk_sub (by omega)) ?_
        refine lv_bipush (v := nI 40) hx hb dX1_lift_22 (by decide) ?_
        refine lv_icmp_le (tgt := 30) hx hb dX1_lift_24 rfl (fun h24 => ?_) (fun h24 => ?_)
        · skip
          have h24 := (tl_le (show (nI (b - a)).toInt = ((b - a : Nat) : Int) from (nI_toInt (by omega))) (show (nI 40).toInt = (40 : Int) from (by decide))).mp h24
          refine lv_aload_n hx hb dX1_lift_30 rfl (lv_at hl 0 rfl) ?_
          refine lv_iload_n hx hb dX1_lift_31 rfl (lv_at hl 2 rfl) ?_
          refine lv_iload_n hx hb dX1_lift_32 rfl (lv_at hl 1 rfl) ?_
          refine lv_isub hx hb dX1_lift_33 ?_
          refine tl_top (pk_sub (by omega)) ?_
          refine va_put (D := (dC, dI)) (ci := 1) (v := .int (nI (b - a))) (ty := .int) (C := RX1) (T := TX1) (N := 6) hx hb hts hinX1 tyX1 tyX1_ok nmX1 hown hK hP hD hS 0 rfl rfl 4 (by decide) (hts _ (List.mem_cons_of_mem _ k249)) (fun _ h9 => h9) rfl (by decide +kernel) rfl rfl (Nat.le_of_ble_eq_true rfl) dX1_lift_34 (fun H locs hP hD hS => ?_)
          have hP : va_P (dC, dI) vwCl [(h0, .inr (1, [.ref q0, .ref q1, .ref q2, .int (nI n), .int (nI (b - a)), .int d])), (q0, .inl (cA, 3000, .inl T)), (q1, .inl (cB, 40, .inl G)), (q2, .inl (cC, 20, .inl E))] H := hP
          have hD : va_D A [(h0, .inr (1, [.ref q0, .ref q1, .ref q2, .int (nI n), .int (nI (b - a)), .int d])), (q0, .inl (cA, 3000, .inl T)), (q1, .inl (cB, 40, .inl G)), (q2, .inl (cC, 20, .inl E))] := hD
          refine lv_iconst (v := nI 0) hx hb dX1_lift_37 (by decide) ?_
          refine lv_istore_n (lv' := [(3, .int (nI 0)), (0, .ref h0), (1, .int (nI a)), (2, .int (nI b))]) hx hb dX1_lift_38 rfl hl (by decide) rfl (fun ls hl => ?_)
          have LP39 : ∀ (fu : Nat) (j : Nat) (F : Nat → Int32) (H : Heap) (locs : List Loc) (ls : Array Slot), b - a - j < fu → j ≤ b - a → (∀ i, i < j → F i = T0 (a + i)) → lv_has ls 4 [(0, .ref h0), (1, .int (nI a)), (3, .int (nI j))] → va_P (dC, dI) vwCl [(h0, .inr (1, [.ref q0, .ref q1, .ref q2, .int (nI n), .int (nI (b - a)), .int d])), (q0, .inl (cA, 3000, .inl T)), (q1, .inl (cB, 40, .inl F)), (q2, .inl (cC, 20, .inl E))] H → va_D A [(h0, .inr (1, [.ref q0, .ref q1, .ref q2, .int (nI n), .int (nI (b - a)), .int d])), (q0, .inl (cA, 3000, .inl T)), (q1, .inl (cB, 40, .inl F)), (q2, .inl (cC, 20, .inl E))] → va_S A s.heap H locs → W p l e (headSpec wsX1_lift ({ frames := 0, cells := 0, slots := 0, locals := 0 } : Room)).room s m ([.ref h0, .int (nI a), .int (nI b)] : List Value).toArray below meth c H locs 0 0 Q (F0 m 39 ls []) := by
            intro fu
            induction fu with
            | zero => intro j F H locs ls hfu; exact absurd hfu (Nat.not_lt_zero _)
            | succ fu ih =>
              intro j F H locs ls hfu hj hF hl hP hD hS
              refine lv_iload_n hx hb dX1_lift_39 rfl (lv_at hl 2 rfl) ?_
              refine lv_aload_n hx hb dX1_lift_40 rfl (lv_at hl 0 rfl) ?_
              refine va_get (D := (dC, dI)) (ci := 1) (v := .int (nI (b - a))) (C := RX1) (T := TX1) (N := 6) hx hb hts hinX1 hown hK hP 0 rfl rfl 4 (by decide) (hts _ (List.mem_cons_of_mem _ k249)) (fun _ h9 => h9) rfl dX1_lift_41 ?_
              refine lv_icmp_ge (tgt := 67) hx hb dX1_lift_44 rfl (fun h44 => ?_) (fun h44 => ?_)
              · skip
                have h44 := (tl_le (show (nI (b - a)).toInt = ((b - a : Nat) : Int) from (nI_toInt (by omega))) (show (nI j).toInt = ((j : Nat) : Int) from (nI_toInt (by omega)))).mp h44
                refine lv_aload_n hx hb dX1_lift_67 rfl (lv_at hl 0 rfl) ?_
                refine va_get (D := (dC, dI)) (ci := 1) (v := .int (nI (b - a))) (C := RX1) (T := TX1) (N := 6) hx hb hts hinX1 hown hK hP 0 rfl rfl 4 (by decide) (hts _ (List.mem_cons_of_mem _ k249)) (fun _ h9 => h9) rfl dX1_lift_68 ?_
                subst hQ
                exact W.iret (v := nI (b - a)) hx hb hr (fun t ht hW => ⟨⟨nI (b - a), ((n, T, b - a, F), E, d), rfl, (by rw [(show sp_lift (nI a) (nI b) n T0 k G0 = (nI (b - a), (n, T0, b - a, fun j => T0 (a + j))) from (by unfold sp_lift; (try simp only [nI_clamp lta]); (try simp only [nI_clamp ltb]); (repeat' split) <;> first | rfl | (exfalso; omega)))]; exact ⟨rfl, tE_mk hT (fun i hi => hF i (by omega)) hn (by omega)⟩), by rw [ht]; exact hP, va_K.moved hW.alike hK, hD⟩, hS.F ht⟩) hS.2.2 dX1_lift_71
              · skip
                have h44 := (not_congr (tl_le (show (nI (b - a)).toInt = ((b - a : Nat) : Int) from (nI_toInt (by omega))) (show (nI j).toInt = ((j : Nat) : Int) from (nI_toInt (by omega))))).mp h44
                refine lv_aload_n hx hb dX1_lift_47 rfl (lv_at hl 0 rfl) ?_
                refine va_get (D := (dC, dI)) (ci := 1) (v := .ref q1) (C := RX1) (T := TX1) (N := 6) hx hb hts hinX1 hown hK hP 0 rfl rfl 1 (by decide) (hts _ (List.mem_cons_of_mem _ k246)) (fun _ h9 => h9) rfl dX1_lift_48 ?_
                refine lv_iload_n hx hb dX1_lift_51 rfl (lv_at hl 2 rfl) ?_
                refine lv_aload_n hx hb dX1_lift_52 rfl (lv_at hl 0 rfl) ?_
                refine va_get (D := (dC, dI)) (ci := 1) (v := .ref q0) (C := RX1) (T := TX1) (N := 6) hx hb hts hinX1 hown hK hP 0 rfl rfl 0 (by decide) (hts _ (List.mem_cons_of_mem _ k245)) (fun _ h9 => h9) rfl dX1_lift_53 ?_
                refine lv_iload_n hx hb dX1_lift_56 rfl (lv_at hl 1 rfl) ?_
                refine lv_iload_n hx hb dX1_lift_57 rfl (lv_at hl 2 rfl) ?_
                refine lv_iadd hx hb dX1_lift_58 ?_
                refine tl_top (nI_add _ _) ?_
                refine tl_iald (v := T0 (a + j)) hx hb hK hP 1 0 rfl rfl (by omega) (by decide) (hT _ (by omega)) dX1_lift_59 ?_
                refine tl_iast hx hb hK hP hD hS 2 1 rfl rfl (by omega) (by decide) dX1_lift_60 (fun H locs hP hD hS => ?_)
                have hP : va_P (dC, dI) vwCl [(h0, .inr (1, [.ref q0, .ref q1, .ref q2, .int (nI n), .int (nI (b - a)), .int d])), (q0, .inl (cA, 3000, .inl T)), (q1, .inl (cB, 40, .inl (upd F j (T0 (a + j))))), (q2, .inl (cC, 20, .inl E))] H := hP
                have hD : va_D A [(h0, .inr (1, [.ref q0, .ref q1, .ref q2, .int (nI n), .int (nI (b - a)), .int d])), (q0, .inl (cA, 3000, .inl T)), (q1, .inl (cB, 40, .inl (upd F j (T0 (a + j))))), (q2, .inl (cC, 20, .inl E))] := hD
                refine lv_iinc (lv' := [(3, .int (nI (j + 1))), (0, .ref h0), (1, .int (nI a))]) (k := 2) (v := nI (j + 1)) hx hb dX1_lift_61 hl rfl (tl_inc1 _) (by decide) rfl (fun ls hl => ?_)
                refine lv_goto (tgt := 39) hx hb dX1_lift_64 rfl ?_
                exact ih (j + 1) (upd F j (T0 (a + j))) _ _ ls (by omega) (by omega) (pm_lift hF) (lv_sub hl [1, 2, 0] rfl) hP hD hS
          exact LP39 _ 0 G _ _ ls (Nat.lt_succ_self _) (by omega) (by intro i hi; omega) (lv_sub hl [1, 2, 0] rfl) hP hD hS
        · skip
          have h24 := (not_congr (tl_le (show (nI (b - a)).toInt = ((b - a : Nat) : Int) from (nI_toInt (by omega))) (show (nI 40).toInt = (40 : Int) from (by decide)))).mp h24
          refine lv_bipush (v := (-3 : Int32)) hx hb dX1_lift_27 (by decide) ?_
          subst hQ
          exact W.iret (v := (-3 : Int32)) hx hb hr (fun t ht hW => ⟨⟨(-3 : Int32), ((n, T, k, G), E, d), rfl, (by rw [(show sp_lift (nI a) (nI b) n T0 k G0 = ((-3 : Int32), (n, T0, k, G0)) from (by unfold sp_lift; (try simp only [nI_clamp lta]); (try simp only [nI_clamp ltb]); (repeat' split) <;> first | rfl | (exfalso; omega)))]; exact ⟨rfl, tE_mk hT hG hn hk⟩), by rw [ht]; exact hP, va_K.moved hW.alike hK, hD⟩, hS.F ht⟩) hS.2.2 dX1_lift_29
      · skip
        have h14 := (not_congr (tl_le (show y.toInt = y.toInt from rfl) (show (nI n).toInt = ((n : Nat) : Int) from (nI_toInt (by omega))))).mp h14
        refine lv_iconst (v := (-1 : Int32)) hx hb dX1_lift_17 (by decide) ?_
        subst hQ
        exact W.iret (v := (-1 : Int32)) hx hb hr (fun t ht hW => ⟨⟨(-1 : Int32), ((n, T, k, G), E, d), rfl, (by rw [(show sp_lift x y n T0 k G0 = ((-1 : Int32), (n, T0, k, G0)) from (by unfold sp_lift; (repeat' split) <;> first | rfl | (exfalso; omega)))]; exact ⟨rfl, tE_mk hT hG hn hk⟩), by rw [ht]; exact hP, va_K.moved hW.alike hK, hD⟩, hS.F ht⟩) hS.2.2 dX1_lift_18
end
section
set_option maxHeartbeats 4000000 in
set_option maxRecDepth 100000 in
theorem c_M_insert (l : Launch) (dC : Nat → ClassId) (dI : Nat → Nat → Nat) (h0 q0 q1 q2 sz n k : Nat) (cA cB cC : ClassId) (T G T0 G0 : Nat → Int32) (hT : ∀ j, j < n → T j = T0 j) (hG : ∀ j, j < k → G j = G0 j) (hn : n ≤ 3000) (hk : k ≤ 40) (E : Nat → Int32) (d : Int32) (x fl : Int32) (y : Int64) : Met l yX1_insert wsX1_insert ({ frames := 2, cells := 0, slots := 0, locals := 45 } : Room) (va_Pc [.ref h0, .int x, .int fl, .long y] (fun U => U.heap.size = sz ∧ va_P (dC, dI) vwCl [(h0, .inr (1, [.ref q0, .ref q1, .ref q2, .int (nI n), .int (nI k), .int d])), (q0, .inl (cA, 3000, .inl T)), (q1, .inl (cB, 40, .inl G)), (q2, .inl (cC, 20, .inl E))] U.heap ∧ va_K (dC, dI) vwCl [(cA, .int), (cB, .int), (cC, .int)] U ∧ va_D (fun _ => True) [(h0, .inr (1, [.ref q0, .ref q1, .ref q2, .int (nI n), .int (nI k), .int d])), (q0, .inl (cA, 3000, .inl T)), (q1, .inl (cB, 40, .inl G)), (q2, .inl (cC, 20, .inl E))])) (va_Qi (fun (r : Int32) (u : tM) => r = (sp_insert x fl y n T0 k G0).1 ∧ tE u.1 (sp_insert x fl y n T0 k G0).2) (at_M dC dI (va_A [(h0, .inr (1, [.ref q0, .ref q1, .ref q2, .int (nI n), .int (nI k), .int d])), (q0, .inl (cA, 3000, .inl T)), (q1, .inl (cB, 40, .inl G)), (q2, .inl (cC, 20, .inl E))] sz) h0 q0 q1 q2 cA cB cC) (va_A [(h0, .inr (1, [.ref q0, .ref q1, .ref q2, .int (nI n), .int (nI k), .int d])), (q0, .inl (cA, 3000, .inl T)), (q1, .inl (cB, 40, .inl G)), (q2, .inl (cC, 20, .inl E))] sz)) 0 0 (va_A [(h0, .inr (1, [.ref q0, .ref q1, .ref q2, .int (nI n), .int (nI k), .int d])), (q0, .inl (cA, 3000, .inl T)), (q1, .inl (cB, 40, .inl G)), (q2, .inl (cC, 20, .inl E))] sz) := by
  refine Met.ofW (cc := cX1_insert) (maxL := 5) (ret := (some .int)) (by decide) rfl ?_
  intro p e s m args below meth c s₁ B hml hv
  obtain ⟨rfl, hsz, hP, hK, hD0⟩ := hv
  have hx := B.exec
  have hb := B.bytes
  have hr := B.returns
  have hts := atoms_spec (ws := wsX1_insert) B.pre
  have hown : s.vm.findClass RX1 = some m.cls := findClass_of_methodNamed B.named
  have hlocks := B.notSynchronized
  subst hsz
  have hD := hD0.self (sz := s.heap.size)
  generalize hAe : va_A [(h0, .inr (1, [.ref q0, .ref q1, .ref q2, .int (nI n), .int (nI k), .int d])), (q0, .inl (cA, 3000, .inl T)), (q1, .inl (cB, 40, .inl G)), (q2, .inl (cC, 20, .inl E))] s.heap.size = A at hD ⊢
  have hA : ∀ q : Nat, s.heap.size ≤ q → A q := fun q h => by rw [← hAe]; exact Or.inr h
  have hS : va_S A s.heap s.heap [] := va_S.rf
  have hP : va_P (dC, dI) vwCl [(h0, .inr (1, [.ref q0, .ref q1, .ref q2, .int (nI n), .int (nI k), .int d])), (q0, .inl (cA, 3000, .inl T)), (q1, .inl (cB, 40, .inl G)), (q2, .inl (cC, 20, .inl E))] s.heap := hP
  have hinX1 : ∀ w ∈ u_ws RX1 TX1 6, w ∈ wsX1_insert := fun w h => List.mem_cons_of_mem _ (inX1 w h)
  have hl := lv_entry ([.ref h0, .int x, .int fl, .long y]) (n := 5) (Nat.le_of_ble_eq_true rfl)
  rw [lg_entry_eq]
  generalize (lg_sl ([.ref h0, .int x, .int fl, .long y]) ++ List.replicate (5 - (lg_sl ([.ref h0, .int x, .int fl, .long y])).length) Slot.unset).toArray = ls at hl ⊢
  have hl : lv_has ls 5 [(0, .ref h0), (1, .int x), (2, .int fl), (3, .long y)] := hl
  refine tl_q (fun Q hQ => ?_)
  refine lv_iload_n hx hb dX1_insert_0 rfl (lv_at hl 1 rfl) ?_
  refine lv_if_lt (tgt := 12) hx hb dX1_insert_1 rfl (fun h1 => ?_) (fun h1 => ?_)
  · skip
    have h1 := (tl_lt (show x.toInt = x.toInt from rfl) (show (0 : Int32).toInt = (0 : Int) from Int32.toInt_zero)).mp h1
    refine lv_iconst (v := (-1 : Int32)) hx hb dX1_insert_12 (by decide) ?_
    subst hQ
    exact W.iret (v := (-1 : Int32)) hx hb hr (fun t ht hW => ⟨⟨(-1 : Int32), ((n, T, k, G), E, d), rfl, (by rw [(show sp_insert x fl y n T0 k G0 = ((-1 : Int32), (n, T0, k, G0)) from (by unfold sp_insert; (repeat' split) <;> first | rfl | (exfalso; omega)))]; exact ⟨rfl, tE_mk hT hG hn hk⟩), by rw [ht]; exact hP, va_K.moved hW.alike hK, hD⟩, hS.F ht⟩) hS.2.2 dX1_insert_13
  · skip
    have h1 := (not_congr (tl_lt (show x.toInt = x.toInt from rfl) (show (0 : Int32).toInt = (0 : Int) from Int32.toInt_zero))).mp h1
    refine lv_iload_n hx hb dX1_insert_4 rfl (lv_at hl 1 rfl) ?_
    refine lv_aload_n hx hb dX1_insert_5 rfl (lv_at hl 0 rfl) ?_
    refine va_get (D := (dC, dI)) (ci := 1) (v := .int (nI n)) (C := RX1) (T := TX1) (N := 6) hx hb hts hinX1 hown hK hP 0 rfl rfl 3 (by decide) (hts _ (List.mem_cons_of_mem _ k248)) (fun _ h9 => h9) rfl dX1_insert_6 ?_
    refine lv_icmp_le (tgt := 14) hx hb dX1_insert_9 rfl (fun h9 => ?_) (fun h9 => ?_)
    · skip
      have h9 := (tl_le (show x.toInt = x.toInt from rfl) (show (nI n).toInt = ((n : Nat) : Int) from (nI_toInt (by omega)))).mp h9
      obtain ⟨a, lta, rfl⟩ := tl_of (x := x) (by omega)
      have ea : (nI a).toInt = ((a : Nat) : Int) := nI_toInt lta
      refine lv_iload_n hx hb dX1_insert_14 rfl (lv_at hl 2 rfl) ?_
      refine lv_if_ne (tgt := 24) hx hb dX1_insert_15 rfl (fun h15 => ?_) (fun h15 => ?_)
      · skip
        have h15 := (not_congr (tl_eq (show fl.toInt = fl.toInt from rfl) (show (0 : Int32).toInt = (0 : Int) from Int32.toInt_zero))).mp h15
        refine lv_aload_n hx hb dX1_insert_24 rfl (lv_at hl 0 rfl) ?_
        refine lv_lload_n hx hb dX1_insert_25 rfl (lv_at hl 3 rfl) ?_
        have hPc := hP.sub (ws' := [(h0, .inr (1, [.ref q0, .ref q1, .ref q2, .int (nI n), .int (nI k), .int d])), (q0, .inl (cA, 3000, .inl T)), (q1, .inl (cB, 40, .inl G)), (q2, .inl (cC, 20, .inl E))]) [0, 1, 2, 3] rfl
        have hDc := hD.sub (ws' := [(h0, .inr (1, [.ref q0, .ref q1, .ref q2, .int (nI n), .int (nI k), .int d])), (q0, .inl (cA, 3000, .inl T)), (q1, .inl (cB, 40, .inl G)), (q2, .inl (cC, 20, .inl E))]) [0, 1, 2, 3] (by decide) rfl
        have hKc := hK
        have hFc := va_free (wc := [(h0, .inr (1, [.ref q0, .ref q1, .ref q2, .int (nI n), .int (nI k), .int d])), (q0, .inl (cA, 3000, .inl T)), (q1, .inl (cB, 40, .inl G)), (q2, .inl (cC, 20, .inl E))]) hD hS hA [0, 1, 2, 3] rfl
        refine va_callv (va_runV (As := [.long y]) (rest := []) ⟨hx, hb, hml, hown, hts⟩ (c_M_digits l dC dI h0 q0 q1 q2 s.heap.size n k cA cB cC T G T0 G0 hT hG (by omega) hk E d y) (cwV 1 hts (gV_ (fun w h => List.mem_cons_of_mem _ h) k290 k292 k12 k22 k293) rfl rfl rfl (by decide +kernel) ⟨Nat.le_of_ble_eq_true rfl, Nat.le_of_ble_eq_true rfl⟩) ⟨fun a U g mk q => by obtain ⟨q0, q1, qP, qK, qD⟩ := q; exact ⟨q0, q1, qP, va_K.moved (u := U) (U := U.calling g mk a) (Vm.Alike.refl U.vm) qK, qD⟩, va_recv hKc hPc (ci := 1) (q0 := 0) rfl rfl, fun U hU hW => ⟨rfl, by rw [hU], by rw [hU]; exact hPc, va_K.moved hW.alike hKc, hDc.weaken (fun _ _ _ _ => trivial)⟩⟩ rfl rfl hl.1 rfl (lv_room (Nat.le_of_ble_eq_true rfl)) dX1_insert_26 ⟨Nat.le_of_ble_eq_true rfl, Nat.le_of_ble_eq_true rfl⟩) hS (fun q _ h => hFc q h) hFc (fun u26 t H locs ht hvm w26 hB hz1 hk1 hS => ?_)
        try dsimp only at w26
        obtain ⟨u1, E2, d2⟩ := u26
        obtain ⟨hu1, hu2, hE2⟩ := w26
        dsimp only at hu1 hu2 hE2
        subst hu1
        subst hu2
        have hm20 := dg_m_le y
        obtain ⟨hP1, hK1, hD1⟩ := hB
        rw [ht] at hP1
        obtain ⟨hP, hD⟩ := va_join (wr := []) (w1 := [(h0, .inr (1, [.ref q0, .ref q1, .ref q2, .int (nI n), .int (nI k), .int (nI (dg_m y))])), (q0, .inl (cA, 3000, .inl T)), (q1, .inl (cB, 40, .inl G)), (q2, .inl (cC, 20, .inl E2))]) hP hD [0, 1, 2, 3] [] rfl rfl (by decide) (by decide) hk1 hFc hP1 hD1
        have hP : va_P (dC, dI) vwCl [(h0, .inr (1, [.ref q0, .ref q1, .ref q2, .int (nI n), .int (nI k), .int (nI (dg_m y))])), (q0, .inl (cA, 3000, .inl T)), (q1, .inl (cB, 40, .inl G)), (q2, .inl (cC, 20, .inl E2))] H := hP
        have hD : va_D A [(h0, .inr (1, [.ref q0, .ref q1, .ref q2, .int (nI n), .int (nI k), .int (nI (dg_m y))])), (q0, .inl (cA, 3000, .inl T)), (q1, .inl (cB, 40, .inl G)), (q2, .inl (cC, 20, .inl E2))] := hD
        refine lv_aload_n hx hb dX1_insert_29 rfl (lv_at hl 0 rfl) ?_
        refine lv_iload_n hx hb dX1_insert_30 rfl (lv_at hl 1 rfl) ?_
        have hPc := hP.sub (ws' := [(h0, .inr (1, [.ref q0, .ref q1, .ref q2, .int (nI n), .int (nI k), .int (nI (dg_m y))])), (q0, .inl (cA, 3000, .inl T)), (q1, .inl (cB, 40, .inl G)), (q2, .inl (cC, 20, .inl E2))]) [0, 1, 2, 3] rfl
        have hDc := hD.sub (ws' := [(h0, .inr (1, [.ref q0, .ref q1, .ref q2, .int (nI n), .int (nI k), .int (nI (dg_m y))])), (q0, .inl (cA, 3000, .inl T)), (q1, .inl (cB, 40, .inl G)), (q2, .inl (cC, 20, .inl E2))]) [0, 1, 2, 3] (by decide) rfl
        have hKc := hK
        have hFc := va_free (wc := [(h0, .inr (1, [.ref q0, .ref q1, .ref q2, .int (nI n), .int (nI k), .int (nI (dg_m y))])), (q0, .inl (cA, 3000, .inl T)), (q1, .inl (cB, 40, .inl G)), (q2, .inl (cC, 20, .inl E2))]) hD hS hA [0, 1, 2, 3] rfl
        refine va_calli (va_runV (As := [.int (nI a)]) (rest := []) ⟨hx, hb, hml, hown, hts⟩ (c_M_putDigits l dC dI h0 q0 q1 q2 H.size n k cA cB cC T G T0 G0 hT hG (by omega) hk E2 (dg_m y) (dg_w y) (by omega) hE2 a (by omega)) (cwV 1 hts (gV_ (fun w h => List.mem_cons_of_mem _ h) k295 k297 k13 k22 k298) rfl rfl rfl (by decide +kernel) ⟨Nat.le_of_ble_eq_true rfl, Nat.le_of_ble_eq_true rfl⟩) ⟨fun a U g mk q => by obtain ⟨q0, q1, qP, qK, qD⟩ := q; exact ⟨q0, q1, qP, va_K.moved (u := U) (U := U.calling g mk a) (Vm.Alike.refl U.vm) qK, qD⟩, va_recv hKc hPc (ci := 1) (q0 := 0) rfl rfl, fun U hU hW => ⟨rfl, by rw [hU], by rw [hU]; exact hPc, va_K.moved hW.alike hKc, hDc.weaken (fun _ _ _ _ => trivial)⟩⟩ rfl rfl hl.1 rfl (lv_room (Nat.le_of_ble_eq_true rfl)) dX1_insert_31 ⟨Nat.le_of_ble_eq_true rfl, Nat.le_of_ble_eq_true rfl⟩) hS (fun q _ h => hFc q h) hFc (fun r31 u31 t H locs ht hvm w31 hB hz1 hk1 hS => ?_)
        try dsimp only at w31
        obtain ⟨⟨n2, T2, k2, G2⟩, E3, d3⟩ := u31
        obtain ⟨hP1, hK1, hD1⟩ := hB
        rw [ht] at hP1
        obtain ⟨hP, hD⟩ := va_join (wr := []) (w1 := [(h0, .inr (1, [.ref q0, .ref q1, .ref q2, .int (nI n2), .int (nI k2), .int d3])), (q0, .inl (cA, 3000, .inl T2)), (q1, .inl (cB, 40, .inl G2)), (q2, .inl (cC, 20, .inl E3))]) hP hD [0, 1, 2, 3] [] rfl rfl (by decide) (by decide) hk1 hFc hP1 hD1
        have hP : va_P (dC, dI) vwCl [(h0, .inr (1, [.ref q0, .ref q1, .ref q2, .int (nI n2), .int (nI k2), .int d3])), (q0, .inl (cA, 3000, .inl T2)), (q1, .inl (cB, 40, .inl G2)), (q2, .inl (cC, 20, .inl E3))] H := hP
        have hD : va_D A [(h0, .inr (1, [.ref q0, .ref q1, .ref q2, .int (nI n2), .int (nI k2), .int d3])), (q0, .inl (cA, 3000, .inl T2)), (q1, .inl (cB, 40, .inl G2)), (q2, .inl (cC, 20, .inl E3))] := hD
        subst hQ
        exact W.iret (v := r31) hx hb hr (fun t ht hW => ⟨⟨r31, ((n2, T2, k2, G2), E3, d3), rfl, (by rw [show sp_insert (nI a) fl y n T0 k G0 = sp_put a a (dg_w y) (dg_m y) n T0 k G0 from (by unfold sp_insert; (try simp only [nI_clamp lta]); (repeat' split) <;> first | rfl | (exfalso; omega))]; exact w31), by rw [ht]; exact hP, va_K.moved hW.alike hK, hD⟩, hS.F ht⟩) hS.2.2 dX1_insert_34
      · skip
        have h15 := (tl_eq (show fl.toInt = fl.toInt from rfl) (show (0 : Int32).toInt = (0 : Int) from Int32.toInt_zero)).mp h15
        refine lv_aload_n hx hb dX1_insert_18 rfl (lv_at hl 0 rfl) ?_
        refine lv_iload_n hx hb dX1_insert_19 rfl (lv_at hl 1 rfl) ?_
        have hPc := hP.sub (ws' := [(h0, .inr (1, [.ref q0, .ref q1, .ref q2, .int (nI n), .int (nI k), .int d])), (q0, .inl (cA, 3000, .inl T)), (q1, .inl (cB, 40, .inl G)), (q2, .inl (cC, 20, .inl E))]) [0, 1, 2, 3] rfl
        have hDc := hD.sub (ws' := [(h0, .inr (1, [.ref q0, .ref q1, .ref q2, .int (nI n), .int (nI k), .int d])), (q0, .inl (cA, 3000, .inl T)), (q1, .inl (cB, 40, .inl G)), (q2, .inl (cC, 20, .inl E))]) [0, 1, 2, 3] (by decide) rfl
        have hKc := hK
        have hFc := va_free (wc := [(h0, .inr (1, [.ref q0, .ref q1, .ref q2, .int (nI n), .int (nI k), .int d])), (q0, .inl (cA, 3000, .inl T)), (q1, .inl (cB, 40, .inl G)), (q2, .inl (cC, 20, .inl E))]) hD hS hA [0, 1, 2, 3] rfl
        refine va_calli (va_runV (As := [.int (nI a)]) (rest := []) ⟨hx, hb, hml, hown, hts⟩ (c_M_putScrap l dC dI h0 q0 q1 q2 s.heap.size n k cA cB cC T G T0 G0 hT hG (by omega) hk E d a (by omega)) (cwV 1 hts (gV_ (fun w h => List.mem_cons_of_mem _ h) k315 k317 k17 k22 k318) rfl rfl rfl (by decide +kernel) ⟨Nat.le_of_ble_eq_true rfl, Nat.le_of_ble_eq_true rfl⟩) ⟨fun a U g mk q => by obtain ⟨q0, q1, qP, qK, qD⟩ := q; exact ⟨q0, q1, qP, va_K.moved (u := U) (U := U.calling g mk a) (Vm.Alike.refl U.vm) qK, qD⟩, va_recv hKc hPc (ci := 1) (q0 := 0) rfl rfl, fun U hU hW => ⟨rfl, by rw [hU], by rw [hU]; exact hPc, va_K.moved hW.alike hKc, hDc.weaken (fun _ _ _ _ => trivial)⟩⟩ rfl rfl hl.1 rfl (lv_room (Nat.le_of_ble_eq_true rfl)) dX1_insert_20 ⟨Nat.le_of_ble_eq_true rfl, Nat.le_of_ble_eq_true rfl⟩) hS (fun q _ h => hFc q h) hFc (fun r20 u20 t H locs ht hvm w20 hB hz1 hk1 hS => ?_)
        try dsimp only at w20
        obtain ⟨⟨n2, T2, k2, G2⟩, E3, d3⟩ := u20
        obtain ⟨hP1, hK1, hD1⟩ := hB
        rw [ht] at hP1
        obtain ⟨hP, hD⟩ := va_join (wr := []) (w1 := [(h0, .inr (1, [.ref q0, .ref q1, .ref q2, .int (nI n2), .int (nI k2), .int d3])), (q0, .inl (cA, 3000, .inl T2)), (q1, .inl (cB, 40, .inl G2)), (q2, .inl (cC, 20, .inl E3))]) hP hD [0, 1, 2, 3] [] rfl rfl (by decide) (by decide) hk1 hFc hP1 hD1
        have hP : va_P (dC, dI) vwCl [(h0, .inr (1, [.ref q0, .ref q1, .ref q2, .int (nI n2), .int (nI k2), .int d3])), (q0, .inl (cA, 3000, .inl T2)), (q1, .inl (cB, 40, .inl G2)), (q2, .inl (cC, 20, .inl E3))] H := hP
        have hD : va_D A [(h0, .inr (1, [.ref q0, .ref q1, .ref q2, .int (nI n2), .int (nI k2), .int d3])), (q0, .inl (cA, 3000, .inl T2)), (q1, .inl (cB, 40, .inl G2)), (q2, .inl (cC, 20, .inl E3))] := hD
        subst hQ
        exact W.iret (v := r20) hx hb hr (fun t ht hW => ⟨⟨r20, ((n2, T2, k2, G2), E3, d3), rfl, (by rw [show sp_insert (nI a) fl y n T0 k G0 = sp_put a a G0 k n T0 k G0 from (by unfold sp_insert; (try simp only [nI_clamp lta]); (repeat' split) <;> first | rfl | (exfalso; omega))]; exact w20), by rw [ht]; exact hP, va_K.moved hW.alike hK, hD⟩, hS.F ht⟩) hS.2.2 dX1_insert_23
    · skip
      have h9 := (not_congr (tl_le (show x.toInt = x.toInt from rfl) (show (nI n).toInt = ((n : Nat) : Int) from (nI_toInt (by omega))))).mp h9
      refine lv_iconst (v := (-1 : Int32)) hx hb dX1_insert_12 (by decide) ?_
      subst hQ
      exact W.iret (v := (-1 : Int32)) hx hb hr (fun t ht hW => ⟨⟨(-1 : Int32), ((n, T, k, G), E, d), rfl, (by rw [(show sp_insert x fl y n T0 k G0 = ((-1 : Int32), (n, T0, k, G0)) from (by unfold sp_insert; (repeat' split) <;> first | rfl | (exfalso; omega)))]; exact ⟨rfl, tE_mk hT hG hn hk⟩), by rw [ht]; exact hP, va_K.moved hW.alike hK, hD⟩, hS.F ht⟩) hS.2.2 dX1_insert_13
set_option maxHeartbeats 4000000 in
set_option maxRecDepth 100000 in
theorem c_M_cut (l : Launch) (dC : Nat → ClassId) (dI : Nat → Nat → Nat) (h0 q0 q1 q2 sz n k : Nat) (cA cB cC : ClassId) (T G T0 G0 : Nat → Int32) (hT : ∀ j, j < n → T j = T0 j) (hG : ∀ j, j < k → G j = G0 j) (hn : n ≤ 3000) (hk : k ≤ 40) (E : Nat → Int32) (d : Int32) (x y : Int32) : Met l yX1_cut wsX1_cut ({ frames := 1, cells := 0, slots := 0, locals := 24 } : Room) (va_Pc [.ref h0, .int x, .int y] (fun U => U.heap.size = sz ∧ va_P (dC, dI) vwCl [(h0, .inr (1, [.ref q0, .ref q1, .ref q2, .int (nI n), .int (nI k), .int d])), (q0, .inl (cA, 3000, .inl T)), (q1, .inl (cB, 40, .inl G)), (q2, .inl (cC, 20, .inl E))] U.heap ∧ va_K (dC, dI) vwCl [(cA, .int), (cB, .int), (cC, .int)] U ∧ va_D (fun _ => True) [(h0, .inr (1, [.ref q0, .ref q1, .ref q2, .int (nI n), .int (nI k), .int d])), (q0, .inl (cA, 3000, .inl T)), (q1, .inl (cB, 40, .inl G)), (q2, .inl (cC, 20, .inl E))])) (va_Qi (fun (r : Int32) (u : tM) => r = (sp_cut x y n T0 k G0).1 ∧ tE u.1 (sp_cut x y n T0 k G0).2) (at_M dC dI (va_A [(h0, .inr (1, [.ref q0, .ref q1, .ref q2, .int (nI n), .int (nI k), .int d])), (q0, .inl (cA, 3000, .inl T)), (q1, .inl (cB, 40, .inl G)), (q2, .inl (cC, 20, .inl E))] sz) h0 q0 q1 q2 cA cB cC) (va_A [(h0, .inr (1, [.ref q0, .ref q1, .ref q2, .int (nI n), .int (nI k), .int d])), (q0, .inl (cA, 3000, .inl T)), (q1, .inl (cB, 40, .inl G)), (q2, .inl (cC, 20, .inl E))] sz)) 0 0 (va_A [(h0, .inr (1, [.ref q0, .ref q1, .ref q2, .int (nI n), .int (nI k), .int d])), (q0, .inl (cA, 3000, .inl T)), (q1, .inl (cB, 40, .inl G)), (q2, .inl (cC, 20, .inl E))] sz) := by
  refine Met.ofW (cc := cX1_cut) (maxL := 3) (ret := (some .int)) (by decide) rfl ?_
  intro p e s m args below meth c s₁ B hml hv
  obtain ⟨rfl, hsz, hP, hK, hD0⟩ := hv
  have hx := B.exec
  have hb := B.bytes
  have hr := B.returns
  have hts := atoms_spec (ws := wsX1_cut) B.pre
  have hown : s.vm.findClass RX1 = some m.cls := findClass_of_methodNamed B.named
  have hlocks := B.notSynchronized
  subst hsz
  have hD := hD0.self (sz := s.heap.size)
  generalize hAe : va_A [(h0, .inr (1, [.ref q0, .ref q1, .ref q2, .int (nI n), .int (nI k), .int d])), (q0, .inl (cA, 3000, .inl T)), (q1, .inl (cB, 40, .inl G)), (q2, .inl (cC, 20, .inl E))] s.heap.size = A at hD ⊢
  have hA : ∀ q : Nat, s.heap.size ≤ q → A q := fun q h => by rw [← hAe]; exact Or.inr h
  have hS : va_S A s.heap s.heap [] := va_S.rf
  have hP : va_P (dC, dI) vwCl [(h0, .inr (1, [.ref q0, .ref q1, .ref q2, .int (nI n), .int (nI k), .int d])), (q0, .inl (cA, 3000, .inl T)), (q1, .inl (cB, 40, .inl G)), (q2, .inl (cC, 20, .inl E))] s.heap := hP
  have hinX1 : ∀ w ∈ u_ws RX1 TX1 6, w ∈ wsX1_cut := fun w h => List.mem_cons_of_mem _ (inX1 w h)
  have hl := lv_entry ([.ref h0, .int x, .int y]) (n := 3) (Nat.le_of_ble_eq_true rfl)
  rw [lg_entry_eq]
  generalize (lg_sl ([.ref h0, .int x, .int y]) ++ List.replicate (3 - (lg_sl ([.ref h0, .int x, .int y])).length) Slot.unset).toArray = ls at hl ⊢
  have hl : lv_has ls 3 [(0, .ref h0), (1, .int x), (2, .int y)] := hl
  refine tl_q (fun Q hQ => ?_)
  refine lv_iload_n hx hb dX1_cut_0 rfl (lv_at hl 1 rfl) ?_
  refine lv_if_lt (tgt := 17) hx hb dX1_cut_1 rfl (fun h1 => ?_) (fun h1 => ?_)
  · skip
    have h1 := (tl_lt (show x.toInt = x.toInt from rfl) (show (0 : Int32).toInt = (0 : Int) from Int32.toInt_zero)).mp h1
    refine lv_iconst (v := (-1 : Int32)) hx hb dX1_cut_17 (by decide) ?_
    subst hQ
    exact W.iret (v := (-1 : Int32)) hx hb hr (fun t ht hW => ⟨⟨(-1 : Int32), ((n, T, k, G), E, d), rfl, (by rw [(show sp_cut x y n T0 k G0 = ((-1 : Int32), (n, T0, k, G0)) from (by unfold sp_cut; (repeat' split) <;> first | rfl | (exfalso; omega)))]; exact ⟨rfl, tE_mk hT hG hn hk⟩), by rw [ht]; exact hP, va_K.moved hW.alike hK, hD⟩, hS.F ht⟩) hS.2.2 dX1_cut_18
  · skip
    have h1 := (not_congr (tl_lt (show x.toInt = x.toInt from rfl) (show (0 : Int32).toInt = (0 : Int) from Int32.toInt_zero))).mp h1
    refine lv_iload_n hx hb dX1_cut_4 rfl (lv_at hl 1 rfl) ?_
    refine lv_aload_n hx hb dX1_cut_5 rfl (lv_at hl 0 rfl) ?_
    refine va_get (D := (dC, dI)) (ci := 1) (v := .int (nI n)) (C := RX1) (T := TX1) (N := 6) hx hb hts hinX1 hown hK hP 0 rfl rfl 3 (by decide) (hts _ (List.mem_cons_of_mem _ k248)) (fun _ h9 => h9) rfl dX1_cut_6 ?_
    refine lv_icmp_gt (tgt := 17) hx hb dX1_cut_9 rfl (fun h9 => ?_) (fun h9 => ?_)
    · skip
      have h9 := (tl_lt (show (nI n).toInt = ((n : Nat) : Int) from (nI_toInt (by omega))) (show x.toInt = x.toInt from rfl)).mp h9
      refine lv_iconst (v := (-1 : Int32)) hx hb dX1_cut_17 (by decide) ?_
      subst hQ
      exact W.iret (v := (-1 : Int32)) hx hb hr (fun t ht hW => ⟨⟨(-1 : Int32), ((n, T, k, G), E, d), rfl, (by rw [(show sp_cut x y n T0 k G0 = ((-1 : Int32), (n, T0, k, G0)) from (by unfold sp_cut; (repeat' split) <;> first | rfl | (exfalso; omega)))]; exact ⟨rfl, tE_mk hT hG hn hk⟩), by rw [ht]; exact hP, va_K.moved hW.alike hK, hD⟩, hS.F ht⟩) hS.2.2 dX1_cut_18
    · skip
      have h9 := (not_congr (tl_lt (show (nI n).toInt = ((n : Nat) : Int) from (nI_toInt (by omega))) (show x.toInt = x.toInt from rfl))).mp h9
      refine lv_iload_n hx hb dX1_cut_12 rfl (lv_at hl 2 rfl) ?_
      refine lv_iload_n hx hb dX1_cut_13 rfl (lv_at hl 1 rfl) ?_
      refine lv_icmp_ge (tgt := 19) hx hb dX1_cut_14 rfl (fun h14 => ?_) (fun h14 => ?_)
      · skip
        have h14 := (tl_le (show x.toInt = x.toInt from rfl) (show y.toInt = y.toInt from rfl)).mp h14
        obtain ⟨a, lta, rfl⟩ := tl_of (x := x) (by omega)
        have ea : (nI a).toInt = ((a : Nat) : Int) := nI_toInt lta
        obtain ⟨b, ltb, rfl⟩ := tl_of (x := y) (by omega)
        have eb : (nI b).toInt = ((b : Nat) : Int) := nI_toInt ltb
        refine lv_aload_n hx hb dX1_cut_19 rfl (lv_at hl 0 rfl) ?_
        refine lv_iload_n hx hb dX1_cut_20 rfl (lv_at hl 1 rfl) ?_
        refine lv_iload_n hx hb dX1_cut_21 rfl (lv_at hl 2 rfl) ?_
        refine lv_aload_n hx hb dX1_cut_22 rfl (lv_at hl 0 rfl) ?_
        refine va_get (D := (dC, dI)) (ci := 1) (v := .int (nI n)) (C := RX1) (T := TX1) (N := 6) hx hb hts hinX1 hown hK hP 0 rfl rfl 3 (by decide) (hts _ (List.mem_cons_of_mem _ k248)) (fun _ h9 => h9) rfl dX1_cut_23 ?_
        refine lv_icmp_le (tgt := 36) hx hb dX1_cut_26 rfl (fun h26 => ?_) (fun h26 => ?_)
        · skip
          have h26 := (tl_le (show (nI b).toInt = ((b : Nat) : Int) from (nI_toInt (by omega))) (show (nI n).toInt = ((n : Nat) : Int) from (nI_toInt (by omega)))).mp h26
          refine lv_iload_n hx hb dX1_cut_36 rfl (lv_at hl 2 rfl) ?_
          have hPc := hP.sub (ws' := [(h0, .inr (1, [.ref q0, .ref q1, .ref q2, .int (nI n), .int (nI k), .int d])), (q0, .inl (cA, 3000, .inl T)), (q1, .inl (cB, 40, .inl G)), (q2, .inl (cC, 20, .inl E))]) [0, 1, 2, 3] rfl
          have hDc := hD.sub (ws' := [(h0, .inr (1, [.ref q0, .ref q1, .ref q2, .int (nI n), .int (nI k), .int d])), (q0, .inl (cA, 3000, .inl T)), (q1, .inl (cB, 40, .inl G)), (q2, .inl (cC, 20, .inl E))]) [0, 1, 2, 3] (by decide) rfl
          have hKc := hK
          have hFc := va_free (wc := [(h0, .inr (1, [.ref q0, .ref q1, .ref q2, .int (nI n), .int (nI k), .int d])), (q0, .inl (cA, 3000, .inl T)), (q1, .inl (cB, 40, .inl G)), (q2, .inl (cC, 20, .inl E))]) hD hS hA [0, 1, 2, 3] rfl
          refine va_callv (va_runV (As := [.int (nI a), .int (nI b)]) (rest := []) ⟨hx, hb, hml, hown, hts⟩ (c_M_close l dC dI h0 q0 q1 q2 s.heap.size n k cA cB cC T G T0 G0 hT hG (by omega) hk E d a b (by omega) (by omega)) (cwV 2 hts (gV_ (fun w h => List.mem_cons_of_mem _ h) k327 k329 k18 k22 k330) rfl rfl rfl (by decide +kernel) ⟨Nat.le_of_ble_eq_true rfl, Nat.le_of_ble_eq_true rfl⟩) ⟨fun a U g mk q => by obtain ⟨q0, q1, qP, qK, qD⟩ := q; exact ⟨q0, q1, qP, va_K.moved (u := U) (U := U.calling g mk a) (Vm.Alike.refl U.vm) qK, qD⟩, va_recv hKc hPc (ci := 1) (q0 := 0) rfl rfl, fun U hU hW => ⟨rfl, by rw [hU], by rw [hU]; exact hPc, va_K.moved hW.alike hKc, hDc.weaken (fun _ _ _ _ => trivial)⟩⟩ rfl rfl hl.1 rfl (lv_room (Nat.le_of_ble_eq_true rfl)) dX1_cut_37 ⟨Nat.le_of_ble_eq_true rfl, Nat.le_of_ble_eq_true rfl⟩) hS (fun q _ h => hFc q h) hFc (fun u37 t H locs ht hvm w37 hB hz1 hk1 hS => ?_)
          try dsimp only at w37
          obtain ⟨F2, rfl, hO1, hO2⟩ := w37
          have hF9 := pm_cut (w := G0) hT (show a ≤ b by omega) (show b ≤ n by omega) hO1 hO2
          obtain ⟨hP1, hK1, hD1⟩ := hB
          rw [ht] at hP1
          obtain ⟨hP, hD⟩ := va_join (wr := []) (w1 := [(h0, .inr (1, [.ref q0, .ref q1, .ref q2, .int (nI (n - (b - a))), .int (nI k), .int d])), (q0, .inl (cA, 3000, .inl F2)), (q1, .inl (cB, 40, .inl G)), (q2, .inl (cC, 20, .inl E))]) hP hD [0, 1, 2, 3] [] rfl rfl (by decide) (by decide) hk1 hFc hP1 hD1
          have hP : va_P (dC, dI) vwCl [(h0, .inr (1, [.ref q0, .ref q1, .ref q2, .int (nI (n - (b - a))), .int (nI k), .int d])), (q0, .inl (cA, 3000, .inl F2)), (q1, .inl (cB, 40, .inl G)), (q2, .inl (cC, 20, .inl E))] H := hP
          have hD : va_D A [(h0, .inr (1, [.ref q0, .ref q1, .ref q2, .int (nI (n - (b - a))), .int (nI k), .int d])), (q0, .inl (cA, 3000, .inl F2)), (q1, .inl (cB, 40, .inl G)), (q2, .inl (cC, 20, .inl E))] := hD
          refine lv_aload_n hx hb dX1_cut_40 rfl (lv_at hl 0 rfl) ?_
          refine va_get (D := (dC, dI)) (ci := 1) (v := .int (nI (n - (b - a)))) (C := RX1) (T := TX1) (N := 6) hx hb hts hinX1 hown hK hP 0 rfl rfl 3 (by decide) (hts _ (List.mem_cons_of_mem _ k248)) (fun _ h9 => h9) rfl dX1_cut_41 ?_
          subst hQ
          exact W.iret (v := nI (n - (b - a))) hx hb hr (fun t ht hW => ⟨⟨nI (n - (b - a)), ((n - (b - a), F2, k, G), E, d), rfl, (by rw [show sp_cut (nI a) (nI b) n T0 k G0 = sp_put a b G0 0 n T0 k G0 from (by unfold sp_cut; simp only [nI_clamp lta, nI_clamp ltb]; rw [if_pos (by omega), show min b n = b by omega])]; unfold sp_put; rw [if_pos (by omega)]; exact ⟨rfl, tE_mk hF9 hG (by omega) hk⟩), by rw [ht]; exact hP, va_K.moved hW.alike hK, hD⟩, hS.F ht⟩) hS.2.2 dX1_cut_44
        · skip
          have h26 := (not_congr (tl_le (show (nI b).toInt = ((b : Nat) : Int) from (nI_toInt (by omega))) (show (nI n).toInt = ((n : Nat) : Int) from (nI_toInt (by omega))))).mp h26
          refine lv_aload_n hx hb dX1_cut_29 rfl (lv_at hl 0 rfl) ?_
          refine va_get (D := (dC, dI)) (ci := 1) (v := .int (nI n)) (C := RX1) (T := TX1) (N := 6) hx hb hts hinX1 hown hK hP 0 rfl rfl 3 (by decide) (hts _ (List.mem_cons_of_mem _ k248)) (fun _ h9 => h9) rfl dX1_cut_30 ?_
          refine lv_goto (tgt := 37) hx hb dX1_cut_33 rfl ?_
          have hPc := hP.sub (ws' := [(h0, .inr (1, [.ref q0, .ref q1, .ref q2, .int (nI n), .int (nI k), .int d])), (q0, .inl (cA, 3000, .inl T)), (q1, .inl (cB, 40, .inl G)), (q2, .inl (cC, 20, .inl E))]) [0, 1, 2, 3] rfl
          have hDc := hD.sub (ws' := [(h0, .inr (1, [.ref q0, .ref q1, .ref q2, .int (nI n), .int (nI k), .int d])), (q0, .inl (cA, 3000, .inl T)), (q1, .inl (cB, 40, .inl G)), (q2, .inl (cC, 20, .inl E))]) [0, 1, 2, 3] (by decide) rfl
          have hKc := hK
          have hFc := va_free (wc := [(h0, .inr (1, [.ref q0, .ref q1, .ref q2, .int (nI n), .int (nI k), .int d])), (q0, .inl (cA, 3000, .inl T)), (q1, .inl (cB, 40, .inl G)), (q2, .inl (cC, 20, .inl E))]) hD hS hA [0, 1, 2, 3] rfl
          refine va_callv (va_runV (As := [.int (nI a), .int (nI n)]) (rest := []) ⟨hx, hb, hml, hown, hts⟩ (c_M_close l dC dI h0 q0 q1 q2 s.heap.size n k cA cB cC T G T0 G0 hT hG (by omega) hk E d a n (by omega) (by omega)) (cwV 2 hts (gV_ (fun w h => List.mem_cons_of_mem _ h) k327 k329 k18 k22 k330) rfl rfl rfl (by decide +kernel) ⟨Nat.le_of_ble_eq_true rfl, Nat.le_of_ble_eq_true rfl⟩) ⟨fun a U g mk q => by obtain ⟨q0, q1, qP, qK, qD⟩ := q; exact ⟨q0, q1, qP, va_K.moved (u := U) (U := U.calling g mk a) (Vm.Alike.refl U.vm) qK, qD⟩, va_recv hKc hPc (ci := 1) (q0 := 0) rfl rfl, fun U hU hW => ⟨rfl, by rw [hU], by rw [hU]; exact hPc, va_K.moved hW.alike hKc, hDc.weaken (fun _ _ _ _ => trivial)⟩⟩ rfl rfl hl.1 rfl (lv_room (Nat.le_of_ble_eq_true rfl)) dX1_cut_37 ⟨Nat.le_of_ble_eq_true rfl, Nat.le_of_ble_eq_true rfl⟩) hS (fun q _ h => hFc q h) hFc (fun u37 t H locs ht hvm w37 hB hz1 hk1 hS => ?_)
          try dsimp only at w37
          obtain ⟨F2, rfl, hO1, hO2⟩ := w37
          have hF9 := pm_cut (w := G0) hT (show a ≤ n by omega) (show n ≤ n by omega) hO1 hO2
          obtain ⟨hP1, hK1, hD1⟩ := hB
          rw [ht] at hP1
          obtain ⟨hP, hD⟩ := va_join (wr := []) (w1 := [(h0, .inr (1, [.ref q0, .ref q1, .ref q2, .int (nI (n - (n - a))), .int (nI k), .int d])), (q0, .inl (cA, 3000, .inl F2)), (q1, .inl (cB, 40, .inl G)), (q2, .inl (cC, 20, .inl E))]) hP hD [0, 1, 2, 3] [] rfl rfl (by decide) (by decide) hk1 hFc hP1 hD1
          have hP : va_P (dC, dI) vwCl [(h0, .inr (1, [.ref q0, .ref q1, .ref q2, .int (nI (n - (n - a))), .int (nI k), .int d])), (q0, .inl (cA, 3000, .inl F2)), (q1, .inl (cB, 40, .inl G)), (q2, .inl (cC, 20, .inl E))] H := hP
          have hD : va_D A [(h0, .inr (1, [.ref q0, .ref q1, .ref q2, .int (nI (n - (n - a))), .int (nI k), .int d])), (q0, .inl (cA, 3000, .inl F2)), (q1, .inl (cB, 40, .inl G)), (q2, .inl (cC, 20, .inl E))] := hD
          refine lv_aload_n hx hb dX1_cut_40 rfl (lv_at hl 0 rfl) ?_
          refine va_get (D := (dC, dI)) (ci := 1) (v := .int (nI (n - (n - a)))) (C := RX1) (T := TX1) (N := 6) hx hb hts hinX1 hown hK hP 0 rfl rfl 3 (by decide) (hts _ (List.mem_cons_of_mem _ k248)) (fun _ h9 => h9) rfl dX1_cut_41 ?_
          subst hQ
          exact W.iret (v := nI (n - (n - a))) hx hb hr (fun t ht hW => ⟨⟨nI (n - (n - a)), ((n - (n - a), F2, k, G), E, d), rfl, (by rw [show sp_cut (nI a) (nI b) n T0 k G0 = sp_put a n G0 0 n T0 k G0 from (by unfold sp_cut; simp only [nI_clamp lta, nI_clamp ltb]; rw [if_pos (by omega), show min b n = n by omega])]; unfold sp_put; rw [if_pos (by omega)]; exact ⟨rfl, tE_mk hF9 hG (by omega) hk⟩), by rw [ht]; exact hP, va_K.moved hW.alike hK, hD⟩, hS.F ht⟩) hS.2.2 dX1_cut_44
      · skip
        have h14 := (not_congr (tl_le (show x.toInt = x.toInt from rfl) (show y.toInt = y.toInt from rfl))).mp h14
        refine lv_iconst (v := (-1 : Int32)) hx hb dX1_cut_17 (by decide) ?_
        subst hQ
        exact W.iret (v := (-1 : Int32)) hx hb hr (fun t ht hW => ⟨⟨(-1 : Int32), ((n, T, k, G), E, d), rfl, (by rw [(show sp_cut x y n T0 k G0 = ((-1 : Int32), (n, T0, k, G0)) from (by unfold sp_cut; (repeat' split) <;> first | rfl | (exfalso; omega)))]; exact ⟨rfl, tE_mk hT hG hn hk⟩), by rw [ht]; exact hP, va_K.moved hW.alike hK, hD⟩, hS.F ht⟩) hS.2.2 dX1_cut_18
set_option maxHeartbeats 4000000 in
set_option maxRecDepth 100000 in
theorem c_M_swap (l : Launch) (dC : Nat → ClassId) (dI : Nat → Nat → Nat) (h0 q0 q1 q2 sz n k : Nat) (cA cB cC : ClassId) (T G T0 G0 : Nat → Int32) (hT : ∀ j, j < n → T j = T0 j) (hG : ∀ j, j < k → G j = G0 j) (hn : n ≤ 3000) (hk : k ≤ 40) (E : Nat → Int32) (d : Int32) (x y : Int32) : Met l yX1_swap wsX1_swap ({ frames := 2, cells := 0, slots := 0, locals := 45 } : Room) (va_Pc [.ref h0, .int x, .int y] (fun U => U.heap.size = sz ∧ va_P (dC, dI) vwCl [(h0, .inr (1, [.ref q0, .ref q1, .ref q2, .int (nI n), .int (nI k), .int d])), (q0, .inl (cA, 3000, .inl T)), (q1, .inl (cB, 40, .inl G)), (q2, .inl (cC, 20, .inl E))] U.heap ∧ va_K (dC, dI) vwCl [(cA, .int), (cB, .int), (cC, .int)] U ∧ va_D (fun _ => True) [(h0, .inr (1, [.ref q0, .ref q1, .ref q2, .int (nI n), .int (nI k), .int d])), (q0, .inl (cA, 3000, .inl T)), (q1, .inl (cB, 40, .inl G)), (q2, .inl (cC, 20, .inl E))])) (va_Qi (fun (r : Int32) (u : tM) => r = (sp_swap x y n T0 k G0).1 ∧ tE u.1 (sp_swap x y n T0 k G0).2) (at_M dC dI (va_A [(h0, .inr (1, [.ref q0, .ref q1, .ref q2, .int (nI n), .int (nI k), .int d])), (q0, .inl (cA, 3000, .inl T)), (q1, .inl (cB, 40, .inl G)), (q2, .inl (cC, 20, .inl E))] sz) h0 q0 q1 q2 cA cB cC) (va_A [(h0, .inr (1, [.ref q0, .ref q1, .ref q2, .int (nI n), .int (nI k), .int d])), (q0, .inl (cA, 3000, .inl T)), (q1, .inl (cB, 40, .inl G)), (q2, .inl (cC, 20, .inl E))] sz)) 0 0 (va_A [(h0, .inr (1, [.ref q0, .ref q1, .ref q2, .int (nI n), .int (nI k), .int d])), (q0, .inl (cA, 3000, .inl T)), (q1, .inl (cB, 40, .inl G)), (q2, .inl (cC, 20, .inl E))] sz) := by
  refine Met.ofW (cc := cX1_swap) (maxL := 4) (ret := (some .int)) (by decide) rfl ?_
  intro p e s m args below meth c s₁ B hml hv
  obtain ⟨rfl, hsz, hP, hK, hD0⟩ := hv
  have hx := B.exec
  have hb := B.bytes
  have hr := B.returns
  have hts := atoms_spec (ws := wsX1_swap) B.pre
  have hown : s.vm.findClass RX1 = some m.cls := findClass_of_methodNamed B.named
  have hlocks := B.notSynchronized
  subst hsz
  have hD := hD0.self (sz := s.heap.size)
  generalize hAe : va_A [(h0, .inr (1, [.ref q0, .ref q1, .ref q2, .int (nI n), .int (nI k), .int d])), (q0, .inl (cA, 3000, .inl T)), (q1, .inl (cB, 40, .inl G)), (q2, .inl (cC, 20, .inl E))] s.heap.size = A at hD ⊢
  have hA : ∀ q : Nat, s.heap.size ≤ q → A q := fun q h => by rw [← hAe]; exact Or.inr h
  have hS : va_S A s.heap s.heap [] := va_S.rf
  have hP : va_P (dC, dI) vwCl [(h0, .inr (1, [.ref q0, .ref q1, .ref q2, .int (nI n), .int (nI k), .int d])), (q0, .inl (cA, 3000, .inl T)), (q1, .inl (cB, 40, .inl G)), (q2, .inl (cC, 20, .inl E))] s.heap := hP
  have hinX1 : ∀ w ∈ u_ws RX1 TX1 6, w ∈ wsX1_swap := fun w h => List.mem_cons_of_mem _ (inX1 w h)
  have hl := lv_entry ([.ref h0, .int x, .int y]) (n := 4) (Nat.le_of_ble_eq_true rfl)
  rw [lg_entry_eq]
  generalize (lg_sl ([.ref h0, .int x, .int y]) ++ List.replicate (4 - (lg_sl ([.ref h0, .int x, .int y])).length) Slot.unset).toArray = ls at hl ⊢
  have hl : lv_has ls 4 [(0, .ref h0), (1, .int x), (2, .int y)] := hl
  refine tl_q (fun Q hQ => ?_)
  refine lv_iload_n hx hb dX1_swap_0 rfl (lv_at hl 1 rfl) ?_
  refine lv_if_lt (tgt := 17) hx hb dX1_swap_1 rfl (fun h1 => ?_) (fun h1 => ?_)
  · skip
    have h1 := (tl_lt (show x.toInt = x.toInt from rfl) (show (0 : Int32).toInt = (0 : Int) from Int32.toInt_zero)).mp h1
    refine lv_iconst (v := (-1 : Int32)) hx hb dX1_swap_17 (by decide) ?_
    subst hQ
    exact W.iret (v := (-1 : Int32)) hx hb hr (fun t ht hW => ⟨⟨(-1 : Int32), ((n, T, k, G), E, d), rfl, (by rw [(show sp_swap x y n T0 k G0 = ((-1 : Int32), (n, T0, k, G0)) from (by unfold sp_swap; (repeat' split) <;> first | rfl | (exfalso; omega)))]; exact ⟨rfl, tE_mk hT hG hn hk⟩), by rw [ht]; exact hP, va_K.moved hW.alike hK, hD⟩, hS.F ht⟩) hS.2.2 dX1_swap_18
  · skip
    have h1 := (not_congr (tl_lt (show x.toInt = x.toInt from rfl) (show (0 : Int32).toInt = (0 : Int) from Int32.toInt_zero))).mp h1
    refine lv_iload_n hx hb dX1_swap_4 rfl (lv_at hl 1 rfl) ?_
    refine lv_aload_n hx hb dX1_swap_5 rfl (lv_at hl 0 rfl) ?_
    refine va_get (D := (dC, dI)) (ci := 1) (v := .int (nI n)) (C := RX1) (T := TX1) (N := 6) hx hb hts hinX1 hown hK hP 0 rfl rfl 3 (by decide) (hts _ (List.mem_cons_of_mem _ k248)) (fun _ h9 => h9) rfl dX1_swap_6 ?_
    refine lv_icmp_gt (tgt := 17) hx hb dX1_swap_9 rfl (fun h9 => ?_) (fun h9 => ?_)
    · skip
      have h9 := (tl_lt (show (nI n).toInt = ((n : Nat) : Int) from (nI_toInt (by omega))) (show x.toInt = x.toInt from rfl)).mp h9
      refine lv_iconst (v := (-1 : Int32)) hx hb dX1_swap_17 (by decide) ?_
      subst hQ
      exact W.iret (v := (-1 : Int32)) hx hb hr (fun t ht hW => ⟨⟨(-1 : Int32), ((n, T, k, G), E, d), rfl, (by rw [(show sp_swap x y n T0 k G0 = ((-1 : Int32), (n, T0, k, G0)) from (by unfold sp_swap; (repeat' split) <;> first | rfl | (exfalso; omega)))]; exact ⟨rfl, tE_mk hT hG hn hk⟩), by rw [ht]; exact hP, va_K.moved hW.alike hK, hD⟩, hS.F ht⟩) hS.2.2 dX1_swap_18
    · skip
      have h9 := (not_congr (tl_lt (show (nI n).toInt = ((n : Nat) : Int) from (nI_toInt (by omega))) (show x.toInt = x.toInt from rfl))).mp h9
      refine lv_iload_n hx hb dX1_swap_12 rfl (lv_at hl 2 rfl) ?_
      refine lv_iload_n hx hb dX1_swap_13 rfl (lv_at hl 1 rfl) ?_
      refine lv_icmp_ge (tgt := 19) hx hb dX1_swap_14 rfl (fun h14 => ?_) (fun h14 => ?_)
      · skip
        have h14 := (tl_le (show x.toInt = x.toInt from rfl) (show y.toInt = y.toInt from rfl)).mp h14
        obtain ⟨a, lta, rfl⟩ := tl_of (x := x) (by omega)
        have ea : (nI a).toInt = ((a : Nat) : Int) := nI_toInt lta
        obtain ⟨b, ltb, rfl⟩ := tl_of (x := y) (by omega)
        have eb : (nI b).toInt = ((b : Nat) : Int) := nI_toInt ltb
        refine lv_iload_n hx hb dX1_swap_19 rfl (lv_at hl 2 rfl) ?_
        refine lv_aload_n hx hb dX1_swap_20 rfl (lv_at hl 0 rfl) ?_
        refine va_get (D := (dC, dI)) (ci := 1) (v := .int (nI n)) (C := RX1) (T := TX1) (N := 6) hx hb hts hinX1 hown hK hP 0 rfl rfl 3 (by decide) (hts _ (List.mem_cons_of_mem _ k248)) (fun _ h9 => h9) rfl dX1_swap_21 ?_
        refine lv_icmp_le (tgt := 34) hx hb dX1_swap_24 rfl (fun h24 => ?_) (fun h24 => ?_)
        · skip
          have h24 := (tl_le (show (nI b).toInt = ((b : Nat) : Int) from (nI_toInt (by omega))) (show (nI n).toInt = ((n : Nat) : Int) from (nI_toInt (by omega)))).mp h24
          refine lv_iload_n hx hb dX1_swap_34 rfl (lv_at hl 2 rfl) ?_
          refine lv_istore_n (lv' := [(3, .int (nI b)), (0, .ref h0), (1, .int (nI a)), (2, .int (nI b))]) hx hb dX1_swap_35 rfl hl (by decide) rfl (fun ls hl => ?_)
          refine lv_aload_n hx hb dX1_swap_36 rfl (lv_at hl 1 rfl) ?_
          refine va_get (D := (dC, dI)) (ci := 1) (v := .int (nI n)) (C := RX1) (T := TX1) (N := 6) hx hb hts hinX1 hown hK hP 0 rfl rfl 3 (by decide) (hts _ (List.mem_cons_of_mem _ k248)) (fun _ h9 => h9) rfl dX1_swap_37 ?_
          refine lv_iload_n hx hb dX1_swap_40 rfl (lv_at hl 0 rfl) ?_
          refine lv_iload_n hx hb dX1_swap_41 rfl (lv_at hl 2 rfl) ?_
          refine lv_isub hx hb dX1_swap_42 ?_
          refine tl_top (pk_sub (by omega)) ?_
          refine lv_isub hx hb dX1_swap_43 ?_
          refine tl_top (pk_sub (by omega)) ?_
          refine lv_aload_n hx hb dX1_swap_44 rfl (lv_at hl 1 rfl) ?_
          refine va_get (D := (dC, dI)) (ci := 1) (v := .int (nI k)) (C := RX1) (T := TX1) (N := 6) hx hb hts hinX1 hown hK hP 0 rfl rfl 4 (by decide) (hts _ (List.mem_cons_of_mem _ k249)) (fun _ h9 => h9) rfl dX1_swap_45 ?_
          refine lv_iadd hx hb dX1_swap_48 ?_
          refine tl_top (nI_add _ _) ?_
          refine lv_sipush (v := nI 3000) hx hb dX1_swap_49 (by decide) ?_
          refine lv_icmp_le (tgt := 58) hx hb dX1_swap_52 rfl (fun h52 => ?_) (fun h52 => ?_)
          · skip
            have h52 := (tl_le (show (nI ((n - (b - a)) + k)).toInt = (((n - (b - a)) + k : Nat) : Int) from (nI_toInt (by omega))) (show (nI 3000).toInt = (3000 : Int) from (by decide))).mp h52
            refine lv_aload_n hx hb dX1_swap_58 rfl (lv_at hl 1 rfl) ?_
            refine lv_iload_n hx hb dX1_swap_59 rfl (lv_at hl 2 rfl) ?_
            refine lv_iload_n hx hb dX1_swap_60 rfl (lv_at hl 0 rfl) ?_
            have hPc := hP.sub (ws' := [(h0, .inr (1, [.ref q0, .ref q1, .ref q2, .int (nI n), .int (nI k), .int d])), (q0, .inl (cA, 3000, .inl T)), (q1, .inl (cB, 40, .inl G)), (q2, .inl (cC, 20, .inl E))]) [0, 1, 2, 3] rfl
            have hDc := hD.sub (ws' := [(h0, .inr (1, [.ref q0, .ref q1, .ref q2, .int (nI n), .int (nI k), .int d])), (q0, .inl (cA, 3000, .inl T)), (q1, .inl (cB, 40, .inl G)), (q2, .inl (cC, 20, .inl E))]) [0, 1, 2, 3] (by decide) rfl
            have hKc := hK
            have hFc := va_free (wc := [(h0, .inr (1, [.ref q0, .ref q1, .ref q2, .int (nI n), .int (nI k), .int d])), (q0, .inl (cA, 3000, .inl T)), (q1, .inl (cB, 40, .inl G)), (q2, .inl (cC, 20, .inl E))]) hD hS hA [0, 1, 2, 3] rfl
            refine va_callv (va_runV (As := [.int (nI a), .int (nI b)]) (rest := []) ⟨hx, hb, hml, hown, hts⟩ (c_M_close l dC dI h0 q0 q1 q2 s.heap.size n k cA cB cC T G T0 G0 hT hG (by omega) hk E d a b (by omega) (by omega)) (cwV 2 hts (gV_ (fun w h => List.mem_cons_of_mem _ h) k327 k329 k18 k22 k330) rfl rfl rfl (by decide +kernel) ⟨Nat.le_of_ble_eq_true rfl, Nat.le_of_ble_eq_true rfl⟩) ⟨fun a U g mk q => by obtain ⟨q0, q1, qP, qK, qD⟩ := q; exact ⟨q0, q1, qP, va_K.moved (u := U) (U := U.calling g mk a) (Vm.Alike.refl U.vm) qK, qD⟩, va_recv hKc hPc (ci := 1) (q0 := 0) rfl rfl, fun U hU hW => ⟨rfl, by rw [hU], by rw [hU]; exact hPc, va_K.moved hW.alike hKc, hDc.weaken (fun _ _ _ _ => trivial)⟩⟩ rfl rfl hl.1 rfl (lv_room (Nat.le_of_ble_eq_true rfl)) dX1_swap_61 ⟨Nat.le_of_ble_eq_true rfl, Nat.le_of_ble_eq_true rfl⟩) hS (fun q _ h => hFc q h) hFc (fun u61 t H locs ht hvm w61 hB hz1 hk1 hS => ?_)
            try dsimp only at w61
            obtain ⟨F2, rfl, hO1, hO2⟩ := w61
            have hF9 := pm_cut (w := G0) hT (show a ≤ b by omega) (show b ≤ n by omega) hO1 hO2
            obtain ⟨hP1, hK1, hD1⟩ := hB
            rw [ht] at hP1
            obtain ⟨hP, hD⟩ := va_join (wr := []) (w1 := [(h0, .inr (1, [.ref q0, .ref q1, .ref q2, .int (nI (n - (b - a))), .int (nI k), .int d])), (q0, .inl (cA, 3000, .inl F2)), (q1, .inl (cB, 40, .inl G)), (q2, .inl (cC, 20, .inl E))]) hP hD [0, 1, 2, 3] [] rfl rfl (by decide) (by decide) hk1 hFc hP1 hD1
            have hP : va_P (dC, dI) vwCl [(h0, .inr (1, [.ref q0, .ref q1, .ref q2, .int (nI (n - (b - a))), .int (nI k), .int d])), (q0, .inl (cA, 3000, .inl F2)), (q1, .inl (cB, 40, .inl G)), (q2, .inl (cC, 20, .inl E))] H := hP
            have hD : va_D A [(h0, .inr (1, [.ref q0, .ref q1, .ref q2, .int (nI (n - (b - a))), .int (nI k), .int d])), (q0, .inl (cA, 3000, .inl F2)), (q1, .inl (cB, 40, .inl G)), (q2, .inl (cC, 20, .inl E))] := hD
            refine lv_aload_n hx hb dX1_swap_64 rfl (lv_at hl 1 rfl) ?_
            refine lv_iload_n hx hb dX1_swap_65 rfl (lv_at hl 2 rfl) ?_
            have hPc := hP.sub (ws' := [(h0, .inr (1, [.ref q0, .ref q1, .ref q2, .int (nI (n - (b - a))), .int (nI k), .int d])), (q0, .inl (cA, 3000, .inl F2)), (q1, .inl (cB, 40, .inl G)), (q2, .inl (cC, 20, .inl E))]) [0, 1, 2, 3] rfl
            have hDc := hD.sub (ws' := [(h0, .inr (1, [.ref q0, .ref q1, .ref q2, .int (nI (n - (b - a))), .int (nI k), .int d])), (q0, .inl (cA, 3000, .inl F2)), (q1, .inl (cB, 40, .inl G)), (q2, .inl (cC, 20, .inl E))]) [0, 1, 2, 3] (by decide) rfl
            have hKc := hK
            have hFc := va_free (wc := [(h0, .inr (1, [.ref q0, .ref q1, .ref q2, .int (nI (n - (b - a))), .int (nI k), .int d])), (q0, .inl (cA, 3000, .inl F2)), (q1, .inl (cB, 40, .inl G)), (q2, .inl (cC, 20, .inl E))]) hD hS hA [0, 1, 2, 3] rfl
            refine va_calli (va_runV (As := [.int (nI a)]) (rest := []) ⟨hx, hb, hml, hown, hts⟩ (c_M_putScrap l dC dI h0 q0 q1 q2 H.size (n - (b - a)) k cA cB cC F2 G (tl_rep T0 a b G0 0) G0 hF9 hG (by omega) hk E d a (by omega)) (cwV 1 hts (gV_ (fun w h => List.mem_cons_of_mem _ h) k315 k317 k17 k22 k318) rfl rfl rfl (by decide +kernel) ⟨Nat.le_of_ble_eq_true rfl, Nat.le_of_ble_eq_true rfl⟩) ⟨fun a U g mk q => by obtain ⟨q0, q1, qP, qK, qD⟩ := q; exact ⟨q0, q1, qP, va_K.moved (u := U) (U := U.calling g mk a) (Vm.Alike.refl U.vm) qK, qD⟩, va_recv hKc hPc (ci := 1) (q0 := 0) rfl rfl, fun U hU hW => ⟨rfl, by rw [hU], by rw [hU]; exact hPc, va_K.moved hW.alike hKc, hDc.weaken (fun _ _ _ _ => trivial)⟩⟩ rfl rfl hl.1 rfl (lv_room (Nat.le_of_ble_eq_true rfl)) dX1_swap_66 ⟨Nat.le_of_ble_eq_true rfl, Nat.le_of_ble_eq_true rfl⟩) hS (fun q _ h => hFc q h) hFc (fun r66 u66 t H locs ht hvm w66 hB hz1 hk1 hS => ?_)
            try dsimp only at w66
            obtain ⟨⟨n2, T2, k2, G2⟩, E3, d3⟩ := u66
            obtain ⟨hP1, hK1, hD1⟩ := hB
            rw [ht] at hP1
            obtain ⟨hP, hD⟩ := va_join (wr := []) (w1 := [(h0, .inr (1, [.ref q0, .ref q1, .ref q2, .int (nI n2), .int (nI k2), .int d3])), (q0, .inl (cA, 3000, .inl T2)), (q1, .inl (cB, 40, .inl G2)), (q2, .inl (cC, 20, .inl E3))]) hP hD [0, 1, 2, 3] [] rfl rfl (by decide) (by decide) hk1 hFc hP1 hD1
            have hP : va_P (dC, dI) vwCl [(h0, .inr (1, [.ref q0, .ref q1, .ref q2, .int (nI n2), .int (nI k2), .int d3])), (q0, .inl (cA, 3000, .inl T2)), (q1, .inl (cB, 40, .inl G2)), (q2, .inl (cC, 20, .inl E3))] H := hP
            have hD : va_D A [(h0, .inr (1, [.ref q0, .ref q1, .ref q2, .int (nI n2), .int (nI k2), .int d3])), (q0, .inl (cA, 3000, .inl T2)), (q1, .inl (cB, 40, .inl G2)), (q2, .inl (cC, 20, .inl E3))] := hD
            subst hQ
            exact W.iret (v := r66) hx hb hr (fun t ht hW => ⟨⟨r66, ((n2, T2, k2, G2), E3, d3), rfl, (by rw [show sp_swap (nI a) (nI b) n T0 k G0 = sp_put a b G0 k n T0 k G0 from (by unfold sp_swap; simp only [nI_clamp lta, nI_clamp ltb]; rw [if_pos (by omega), show min b n = b by omega]), pm_swap (by omega) (by omega) (by omega)]; exact w66), by rw [ht]; exact hP, va_K.moved hW.alike hK, hD⟩, hS.F ht⟩) hS.2.2 dX1_swap_69
          · skip
            have h52 := (not_congr (tl_le (show (nI ((n - (b - a)) + k)).toInt = (((n - (b - a)) + k : Nat) : Int) from (nI_toInt (by omega))) (show (nI 3000).toInt = (3000 : Int) from (by decide)))).mp h52
            refine lv_bipush (v := (-3 : Int32)) hx hb dX1_swap_55 (by decide) ?_
            subst hQ
            exact W.iret (v := (-3 : Int32)) hx hb hr (fun t ht hW => ⟨⟨(-3 : Int32), ((n, T, k, G), E, d), rfl, (by rw [show sp_swap (nI a) (nI b) n T0 k G0 = sp_put a b G0 k n T0 k G0 from (by unfold sp_swap; simp only [nI_clamp lta, nI_clamp ltb]; rw [if_pos (by omega), show min b n = b by omega])]; unfold sp_put; rw [if_neg (by omega)]; exact ⟨rfl, tE_mk hT hG hn hk⟩), by rw [ht]; exact hP, va_K.moved hW.alike hK, hD⟩, hS.F ht⟩) hS.2.2 dX1_swap_57
        · skip
          have h24 := (not_congr (tl_le (show (nI b).toInt = ((b : Nat) : Int) from (nI_toInt (by omega))) (show (nI n).toInt = ((n : Nat) : Int) from (nI_toInt (by omega))))).mp h24
          refine lv_aload_n hx hb dX1_swap_27 rfl (lv_at hl 0 rfl) ?_
          refine va_get (D := (dC, dI)) (ci := 1) (v := .int (nI n)) (C := RX1) (T := TX1) (N := 6) hx hb hts hinX1 hown hK hP 0 rfl rfl 3 (by decide) (hts _ (List.mem_cons_of_mem _ k248)) (fun _ h9 => h9) rfl dX1_swap_28 ?_
          refine lv_goto (tgt := 35) hx hb dX1_swap_31 rfl ?_
          refine lv_istore_n (lv' := [(3, .int (nI n)), (0, .ref h0), (1, .int (nI a)), (2, .int (nI b))]) hx hb dX1_swap_35 rfl hl (by decide) rfl (fun ls hl => ?_)
          refine lv_aload_n hx hb dX1_swap_36 rfl (lv_at hl 1 rfl) ?_
          refine va_get (D := (dC, dI)) (ci := 1) (v := .int (nI n)) (C := RX1) (T := TX1) (N := 6) hx hb hts hinX1 hown hK hP 0 rfl rfl 3 (by decide) (hts _ (List.mem_cons_of_mem _ k248)) (fun _ h9 => h9) rfl dX1_swap_37 ?_
          refine lv_iload_n hx hb dX1_swap_40 rfl (lv_at hl 0 rfl) ?_
          refine lv_iload_n hx hb dX1_swap_41 rfl (lv_at hl 2 rfl) ?_
          refine lv_isub hx hb dX1_swap_42 ?_
          refine tl_top (pk_sub (by omega)) ?_
          refine lv_isub hx hb dX1_swap_43 ?_
          refine tl_top (pk_sub (by omega)) ?_
          refine lv_aload_n hx hb dX1_swap_44 rfl (lv_at hl 1 rfl) ?_
          refine va_get (D := (dC, dI)) (ci := 1) (v := .int (nI k)) (C := RX1) (T := TX1) (N := 6) hx hb hts hinX1 hown hK hP 0 rfl rfl 4 (by decide) (hts _ (List.mem_cons_of_mem _ k249)) (fun _ h9 => h9) rfl dX1_swap_45 ?_
          refine lv_iadd hx hb dX1_swap_48 ?_
          refine tl_top (nI_add _ _) ?_
          refine lv_sipush (v := nI 3000) hx hb dX1_swap_49 (by decide) ?_
          refine lv_icmp_le (tgt := 58) hx hb dX1_swap_52 rfl (fun h52 => ?_) (fun h52 => ?_)
          · skip
            have h52 := (tl_le (show (nI ((n - (n - a)) + k)).toInt = (((n - (n - a)) + k : Nat) : Int) from (nI_toInt (by omega))) (show (nI 3000).toInt = (3000 : Int) from (by decide))).mp h52
            refine lv_aload_n hx hb dX1_swap_58 rfl (lv_at hl 1 rfl) ?_
            refine lv_iload_n hx hb dX1_swap_59 rfl (lv_at hl 2 rfl) ?_
            refine lv_iload_n hx hb dX1_swap_60 rfl (lv_at hl 0 rfl) ?_
            have hPc := hP.sub (ws' := [(h0, .inr (1, [.ref q0, .ref q1, .ref q2, .int (nI n), .int (nI k), .int d])), (q0, .inl (cA, 3000, .inl T)), (q1, .inl (cB, 40, .inl G)), (q2, .inl (cC, 20, .inl E))]) [0, 1, 2, 3] rfl
            have hDc := hD.sub (ws' := [(h0, .inr (1, [.ref q0, .ref q1, .ref q2, .int (nI n), .int (nI k), .int d])), (q0, .inl (cA, 3000, .inl T)), (q1, .inl (cB, 40, .inl G)), (q2, .inl (cC, 20, .inl E))]) [0, 1, 2, 3] (by decide) rfl
            have hKc := hK
            have hFc := va_free (wc := [(h0, .inr (1, [.ref q0, .ref q1, .ref q2, .int (nI n), .int (nI k), .int d])), (q0, .inl (cA, 3000, .inl T)), (q1, .inl (cB, 40, .inl G)), (q2, .inl (cC, 20, .inl E))]) hD hS hA [0, 1, 2, 3] rfl
            refine va_callv (va_runV (As := [.int (nI a), .int (nI n)]) (rest := []) ⟨hx, hb, hml, hown, hts⟩ (c_M_close l dC dI h0 q0 q1 q2 s.heap.size n k cA cB cC T G T0 G0 hT hG (by omega) hk E d a n (by omega) (by omega)) (cwV 2 hts (gV_ (fun w h => List.mem_cons_of_mem _ h) k327 k329 k18 k22 k330) rfl rfl rfl (by decide +kernel) ⟨Nat.le_of_ble_eq_true rfl, Nat.le_of_ble_eq_true rfl⟩) ⟨fun a U g mk q => by obtain ⟨q0, q1, qP, qK, qD⟩ := q; exact ⟨q0, q1, qP, va_K.moved (u := U) (U := U.calling g mk a) (Vm.Alike.refl U.vm) qK, qD⟩, va_recv hKc hPc (ci := 1) (q0 := 0) rfl rfl, fun U hU hW => ⟨rfl, by rw [hU], by rw [hU]; exact hPc, va_K.moved hW.alike hKc, hDc.weaken (fun _ _ _ _ => trivial)⟩⟩ rfl rfl hl.1 rfl (lv_room (Nat.le_of_ble_eq_true rfl)) dX1_swap_61 ⟨Nat.le_of_ble_eq_true rfl, Nat.le_of_ble_eq_true rfl⟩) hS (fun q _ h => hFc q h) hFc (fun u61 t H locs ht hvm w61 hB hz1 hk1 hS => ?_)
            try dsimp only at w61
            obtain ⟨F2, rfl, hO1, hO2⟩ := w61
            have hF9 := pm_cut (w := G0) hT (show a ≤ n by omega) (show n ≤ n by omega) hO1 hO2
            obtain ⟨hP1, hK1, hD1⟩ := hB
            rw [ht] at hP1
            obtain ⟨hP, hD⟩ := va_join (wr := []) (w1 := [(h0, .inr (1, [.ref q0, .ref q1, .ref q2, .int (nI (n - (n - a))), .int (nI k), .int d])), (q0, .inl (cA, 3000, .inl F2)), (q1, .inl (cB, 40, .inl G)), (q2, .inl (cC, 20, .inl E))]) hP hD [0, 1, 2, 3] [] rfl rfl (by decide) (by decide) hk1 hFc hP1 hD1
            have hP : va_P (dC, dI) vwCl [(h0, .inr (1, [.ref q0, .ref q1, .ref q2, .int (nI (n - (n - a))), .int (nI k), .int d])), (q0, .inl (cA, 3000, .inl F2)), (q1, .inl (cB, 40, .inl G)), (q2, .inl (cC, 20, .inl E))] H := hP
            have hD : va_D A [(h0, .inr (1, [.ref q0, .ref q1, .ref q2, .int (nI (n - (n - a))), .int (nI k), .int d])), (q0, .inl (cA, 3000, .inl F2)), (q1, .inl (cB, 40, .inl G)), (q2, .inl (cC, 20, .inl E))] := hD
            refine lv_aload_n hx hb dX1_swap_64 rfl (lv_at hl 1 rfl) ?_
            refine lv_iload_n hx hb dX1_swap_65 rfl (lv_at hl 2 rfl) ?_
            have hPc := hP.sub (ws' := [(h0, .inr (1, [.ref q0, .ref q1, .ref q2, .int (nI (n - (n - a))), .int (nI k), .int d])), (q0, .inl (cA, 3000, .inl F2)), (q1, .inl (cB, 40, .inl G)), (q2, .inl (cC, 20, .inl E))]) [0, 1, 2, 3] rfl
            have hDc := hD.sub (ws' := [(h0, .inr (1, [.ref q0, .ref q1, .ref q2, .int (nI (n - (n - a))), .int (nI k), .int d])), (q0, .inl (cA, 3000, .inl F2)), (q1, .inl (cB, 40, .inl G)), (q2, .inl (cC, 20, .inl E))]) [0, 1, 2, 3] (by decide) rfl
            have hKc := hK
            have hFc := va_free (wc := [(h0, .inr (1, [.ref q0, .ref q1, .ref q2, .int (nI (n - (n - a))), .int (nI k), .int d])), (q0, .inl (cA, 3000, .inl F2)), (q1, .inl (cB, 40, .inl G)), (q2, .inl (cC, 20, .inl E))]) hD hS hA [0, 1, 2, 3] rfl
            refine va_calli (va_runV (As := [.int (nI a)]) (rest := []) ⟨hx, hb, hml, hown, hts⟩ (c_M_putScrap l dC dI h0 q0 q1 q2 H.size (n - (n - a)) k cA cB cC F2 G (tl_rep T0 a n G0 0) G0 hF9 hG (by omega) hk E d a (by omega)) (cwV 1 hts (gV_ (fun w h => List.mem_cons_of_mem _ h) k315 k317 k17 k22 k318) rfl rfl rfl (by decide +kernel) ⟨Nat.le_of_ble_eq_true rfl, Nat.le_of_ble_eq_true rfl⟩) ⟨fun a U g mk q => by obtain ⟨q0, q1, qP, qK, qD⟩ := q; exact ⟨q0, q1, qP, va_K.moved (u := U) (U := U.calling g mk a) (Vm.Alike.refl U.vm) qK, qD⟩, va_recv hKc hPc (ci := 1) (q0 := 0) rfl rfl, fun U hU hW => ⟨rfl, by rw [hU], by rw [hU]; exact hPc, va_K.moved hW.alike hKc, hDc.weaken (fun _ _ _ _ => trivial)⟩⟩ rfl rfl hl.1 rfl (lv_room (Nat.le_of_ble_eq_true rfl)) dX1_swap_66 ⟨Nat.le_of_ble_eq_true rfl, Nat.le_of_ble_eq_true rfl⟩) hS (fun q _ h => hFc q h) hFc (fun r66 u66 t H locs ht hvm w66 hB hz1 hk1 hS => ?_)
            try dsimp only at w66
            obtain ⟨⟨n2, T2, k2, G2⟩, E3, d3⟩ := u66
            obtain ⟨hP1, hK1, hD1⟩ := hB
            rw [ht] at hP1
            obtain ⟨hP, hD⟩ := va_join (wr := []) (w1 := [(h0, .inr (1, [.ref q0, .ref q1, .ref q2, .int (nI n2), .int (nI k2), .int d3])), (q0, .inl (cA, 3000, .inl T2)), (q1, .inl (cB, 40, .inl G2)), (q2, .inl (cC, 20, .inl E3))]) hP hD [0, 1, 2, 3] [] rfl rfl (by decide) (by decide) hk1 hFc hP1 hD1
            have hP : va_P (dC, dI) vwCl [(h0, .inr (1, [.ref q0, .ref q1, .ref q2, .int (nI n2), .int (nI k2), .int d3])), (q0, .inl (cA, 3000, .inl T2)), (q1, .inl (cB, 40, .inl G2)), (q2, .inl (cC, 20, .inl E3))] H := hP
            have hD : va_D A [(h0, .inr (1, [.ref q0, .ref q1, .ref q2, .int (nI n2), .int (nI k2), .int d3])), (q0, .inl (cA, 3000, .inl T2)), (q1, .inl (cB, 40, .inl G2)), (q2, .inl (cC, 20, .inl E3))] := hD
            subst hQ
            exact W.iret (v := r66) hx hb hr (fun t ht hW => ⟨⟨r66, ((n2, T2, k2, G2), E3, d3), rfl, (by rw [show sp_swap (nI a) (nI b) n T0 k G0 = sp_put a n G0 k n T0 k G0 from (by unfold sp_swap; simp only [nI_clamp lta, nI_clamp ltb]; rw [if_pos (by omega), show min b n = n by omega]), pm_swap (by omega) (by omega) (by omega)]; exact w66), by rw [ht]; exact hP, va_K.moved hW.alike hK, hD⟩, hS.F ht⟩) hS.2.2 dX1_swap_69
          · skip
            have h52 := (not_congr (tl_le (show (nI ((n - (n - a)) + k)).toInt = (((n - (n - a)) + k : Nat) : Int) from (nI_toInt (by omega))) (show (nI 3000).toInt = (3000 : Int) from (by decide)))).mp h52
            refine lv_bipush (v := (-3 : Int32)) hx hb dX1_swap_55 (by decide) ?_
            subst hQ
            exact W.iret (v := (-3 : Int32)) hx hb hr (fun t ht hW => ⟨⟨(-3 : Int32), ((n, T, k, G), E, d), rfl, (by rw [show sp_swap (nI a) (nI b) n T0 k G0 = sp_put a n G0 k n T0 k G0 from (by unfold sp_swap; simp only [nI_clamp lta, nI_clamp ltb]; rw [if_pos (by omega), show min b n = n by omega])]; unfold sp_put; rw [if_neg (by omega)]; exact ⟨rfl, tE_mk hT hG hn hk⟩), by rw [ht]; exact hP, va_K.moved hW.alike hK, hD⟩, hS.F ht⟩) hS.2.2 dX1_swap_57
      · skip
        have h14 := (not_congr (tl_le (show x.toInt = x.toInt from rfl) (show y.toInt = y.toInt from rfl))).mp h14
        refine lv_iconst (v := (-1 : Int32)) hx hb dX1_swap_17 (by decide) ?_
        subst hQ
        exact W.iret (v := (-1 : Int32)) hx hb hr (fun t ht hW => ⟨⟨(-1 : Int32), ((n, T, k, G), E, d), rfl, (by rw [(show sp_swap x y n T0 k G0 = ((-1 : Int32), (n, T0, k, G0)) from (by unfold sp_swap; (repeat' split) <;> first | rfl | (exfalso; omega)))]; exact ⟨rfl, tE_mk hT hG hn hk⟩), by rw [ht]; exact hP, va_K.moved hW.alike hK, hD⟩, hS.F ht⟩) hS.2.2 dX1_swap_18
end
section
set_option maxHeartbeats 4000000 in
set_option maxRecDepth 100000 in
theorem c_M_take (l : Launch) (dC : Nat → ClassId) (dI : Nat → Nat → Nat) (h0 q0 q1 q2 sz n k : Nat) (cA cB cC : ClassId) (T G T0 G0 : Nat → Int32) (hT : ∀ j, j < n → T j = T0 j) (hG : ∀ j, j < k → G j = G0 j) (hn : n ≤ 3000) (hk : k ≤ 40) (E : Nat → Int32) (d : Int32) (x : Int32) : Met l yX1_take wsX1_take ({ frames := 1, cells := 0, slots := 0, locals := 24 } : Room) (va_Pc [.ref h0, .int x] (fun U => U.heap.size = sz ∧ va_P (dC, dI) vwCl [(h0, .inr (1, [.ref q0, .ref q1, .ref q2, .int (nI n), .int (nI k), .int d])), (q0, .inl (cA, 3000, .inl T)), (q1, .inl (cB, 40, .inl G)), (q2, .inl (cC, 20, .inl E))] U.heap ∧ va_K (dC, dI) vwCl [(cA, .int), (cB, .int), (cC, .int)] U ∧ va_D (fun _ => True) [(h0, .inr (1, [.ref q0, .ref q1, .ref q2, .int (nI n), .int (nI k), .int d])), (q0, .inl (cA, 3000, .inl T)), (q1, .inl (cB, 40, .inl G)), (q2, .inl (cC, 20, .inl E))])) (va_Qi (fun (r : Int32) (u : tM) => r = (sp_take x n T0 k G0).1 ∧ tE u.1 (sp_take x n T0 k G0).2) (at_M dC dI (va_A [(h0, .inr (1, [.ref q0, .ref q1, .ref q2, .int (nI n), .int (nI k), .int d])), (q0, .inl (cA, 3000, .inl T)), (q1, .inl (cB, 40, .inl G)), (q2, .inl (cC, 20, .inl E))] sz) h0 q0 q1 q2 cA cB cC) (va_A [(h0, .inr (1, [.ref q0, .ref q1, .ref q2, .int (nI n), .int (nI k), .int d])), (q0, .inl (cA, 3000, .inl T)), (q1, .inl (cB, 40, .inl G)), (q2, .inl (cC, 20, .inl E))] sz)) 0 0 (va_A [(h0, .inr (1, [.ref q0, .ref q1, .ref q2, .int (nI n), .int (nI k), .int d])), (q0, .inl (cA, 3000, .inl T)), (q1, .inl (cB, 40, .inl G)), (q2, .inl (cC, 20, .inl E))] sz) := by
  refine Met.ofW (cc := cX1_take) (maxL := 3) (ret := (some .int)) (by decide) rfl ?_
  intro p e s m args below meth c s₁ B hml hv
  obtain ⟨rfl, hsz, hP, hK, hD0⟩ := hv
  have hx := B.exec
  have hb := B.bytes
  have hr := B.returns
  have hts := atoms_spec (ws := wsX1_take) B.pre
  have hown : s.vm.findClass RX1 = some m.cls := findClass_of_methodNamed B.named
  have hlocks := B.notSynchronized
  subst hsz
  have hD := hD0.self (sz := s.heap.size)
  generalize hAe : va_A [(h0, .inr (1, [.ref q0, .ref q1, .ref q2, .int (nI n), .int (nI k), .int d])), (q0, .inl (cA, 3000, .inl T)), (q1, .inl (cB, 40, .inl G)), (q2, .inl (cC, 20, .inl E))] s.heap.size = A at hD ⊢
  have hA : ∀ q : Nat, s.heap.size ≤ q → A q := fun q h => by rw [← hAe]; exact Or.inr h
  have hS : va_S A s.heap s.heap [] := va_S.rf
  have hP : va_P (dC, dI) vwCl [(h0, .inr (1, [.ref q0, .ref q1, .ref q2, .int (nI n), .int (nI k), .int d])), (q0, .inl (cA, 3000, .inl T)), (q1, .inl (cB, 40, .inl G)), (q2, .inl (cC, 20, .inl E))] s.heap := hP
  have hinX1 : ∀ w ∈ u_ws RX1 TX1 6, w ∈ wsX1_take := fun w h => List.mem_cons_of_mem _ (inX1 w h)
  have hl := lv_entry ([.ref h0, .int x]) (n := 3) (Nat.le_of_ble_eq_true rfl)
  rw [lg_entry_eq]
  generalize (lg_sl ([.ref h0, .int x]) ++ List.replicate (3 - (lg_sl ([.ref h0, .int x])).length) Slot.unset).toArray = ls at hl ⊢
  have hl : lv_has ls 3 [(0, .ref h0), (1, .int x)] := hl
  refine tl_q (fun Q hQ => ?_)
  refine lv_iload_n hx hb dX1_take_0 rfl (lv_at hl 1 rfl) ?_
  refine lv_if_lt (tgt := 12) hx hb dX1_take_1 rfl (fun h1 => ?_) (fun h1 => ?_)
  · skip
    have h1 := (tl_lt (show x.toInt = x.toInt from rfl) (show (0 : Int32).toInt = (0 : Int) from Int32.toInt_zero)).mp h1
    refine lv_iconst (v := (-1 : Int32)) hx hb dX1_take_12 (by decide) ?_
    subst hQ
    exact W.iret (v := (-1 : Int32)) hx hb hr (fun t ht hW => ⟨⟨(-1 : Int32), ((n, T, k, G), E, d), rfl, (by rw [(show sp_take x n T0 k G0 = ((-1 : Int32), (n, T0, k, G0)) from (by unfold sp_take; (repeat' split) <;> first | rfl | (exfalso; omega)))]; exact ⟨rfl, tE_mk hT hG hn hk⟩), by rw [ht]; exact hP, va_K.moved hW.alike hK, hD⟩, hS.F ht⟩) hS.2.2 dX1_take_13
  · skip
    have h1 := (not_congr (tl_lt (show x.toInt = x.toInt from rfl) (show (0 : Int32).toInt = (0 : Int) from Int32.toInt_zero))).mp h1
    refine lv_iload_n hx hb dX1_take_4 rfl (lv_at hl 1 rfl) ?_
    refine lv_aload_n hx hb dX1_take_5 rfl (lv_at hl 0 rfl) ?_
    refine va_get (D := (dC, dI)) (ci := 1) (v := .int (nI n)) (C := RX1) (T := TX1) (N := 6) hx hb hts hinX1 hown hK hP 0 rfl rfl 3 (by decide) (hts _ (List.mem_cons_of_mem _ k248)) (fun _ h9 => h9) rfl dX1_take_6 ?_
    refine lv_icmp_lt (tgt := 14) hx hb dX1_take_9 rfl (fun h9 => ?_) (fun h9 => ?_)
    · skip
      have h9 := (tl_lt (show x.toInt = x.toInt from rfl) (show (nI n).toInt = ((n : Nat) : Int) from (nI_toInt (by omega)))).mp h9
      obtain ⟨a, lta, rfl⟩ := tl_of (x := x) (by omega)
      have ea : (nI a).toInt = ((a : Nat) : Int) := nI_toInt lta
      refine lv_aload_n hx hb dX1_take_14 rfl (lv_at hl 0 rfl) ?_
      refine va_get (D := (dC, dI)) (ci := 1) (v := .ref q0) (C := RX1) (T := TX1) (N := 6) hx hb hts hinX1 hown hK hP 0 rfl rfl 0 (by decide) (hts _ (List.mem_cons_of_mem _ k245)) (fun _ h9 => h9) rfl dX1_take_15 ?_
      refine lv_iload_n hx hb dX1_take_18 rfl (lv_at hl 1 rfl) ?_
      refine tl_iald (v := T0 a) hx hb hK hP 1 0 rfl rfl (by omega) (by decide) (hT _ (by omega)) dX1_take_19 ?_
      refine lv_istore_n (lv' := [(2, .int (T0 a)), (0, .ref h0), (1, .int (nI a))]) hx hb dX1_take_20 rfl hl (by decide) rfl (fun ls hl => ?_)
      refine lv_aload_n hx hb dX1_take_21 rfl (lv_at hl 1 rfl) ?_
      refine lv_iload_n hx hb dX1_take_22 rfl (lv_at hl 2 rfl) ?_
      refine lv_iload_n hx hb dX1_take_23 rfl (lv_at hl 2 rfl) ?_
      refine lv_iconst (v := nI 1) hx hb dX1_take_24 (by decide) ?_
      refine lv_iadd hx hb dX1_take_25 ?_
      refine tl_top (nI_add _ _) ?_
      have hPc := hP.sub (ws' := [(h0, .inr (1, [.ref q0, .ref q1, .ref q2, .int (nI n), .int (nI k), .int d])), (q0, .inl (cA, 3000, .inl T)), (q1, .inl (cB, 40, .inl G)), (q2, .inl (cC, 20, .inl E))]) [0, 1, 2, 3] rfl
      have hDc := hD.sub (ws' := [(h0, .inr (1, [.ref q0, .ref q1, .ref q2, .int (nI n), .int (nI k), .int d])), (q0, .inl (cA, 3000, .inl T)), (q1, .inl (cB, 40, .inl G)), (q2, .inl (cC, 20, .inl E))]) [0, 1, 2, 3] (by decide) rfl
      have hKc := hK
      have hFc := va_free (wc := [(h0, .inr (1, [.ref q0, .ref q1, .ref q2, .int (nI n), .int (nI k), .int d])), (q0, .inl (cA, 3000, .inl T)), (q1, .inl (cB, 40, .inl G)), (q2, .inl (cC, 20, .inl E))]) hD hS hA [0, 1, 2, 3] rfl
      refine va_callv (va_runV (As := [.int (nI a), .int (nI (a + 1))]) (rest := []) ⟨hx, hb, hml, hown, hts⟩ (c_M_close l dC dI h0 q0 q1 q2 s.heap.size n k cA cB cC T G T0 G0 hT hG (by omega) hk E d a (a + 1) (by omega) (by omega)) (cwV 2 hts (gV_ (fun w h => List.mem_cons_of_mem _ h) k327 k329 k18 k22 k330) rfl rfl rfl (by decide +kernel) ⟨Nat.le_of_ble_eq_true rfl, Nat.le_of_ble_eq_true rfl⟩) ⟨fun a U g mk q => by obtain ⟨q0, q1, qP, qK, qD⟩ := q; exact ⟨q0, q1, qP, va_K.moved (u := U) (U := U.calling g mk a) (Vm.Alike.refl U.vm) qK, qD⟩, va_recv hKc hPc (ci := 1) (q0 := 0) rfl rfl, fun U hU hW => ⟨rfl, by rw [hU], by rw [hU]; exact hPc, va_K.moved hW.alike hKc, hDc.weaken (fun _ _ _ _ => trivial)⟩⟩ rfl rfl hl.1 rfl (lv_room (Nat.le_of_ble_eq_true rfl)) dX1_take_26 ⟨Nat.le_of_ble_eq_true rfl, Nat.le_of_ble_eq_true rfl⟩) hS (fun q _ h => hFc q h) hFc (fun u26 t H locs ht hvm w26 hB hz1 hk1 hS => ?_)
      try dsimp only at w26
      obtain ⟨F2, rfl, hO1, hO2⟩ := w26
      have hF9 := pm_cut (w := G0) hT (show a ≤ a + 1 by omega) (show a + 1 ≤ n by omega) hO1 hO2
      obtain ⟨hP1, hK1, hD1⟩ := hB
      rw [ht] at hP1
      obtain ⟨hP, hD⟩ := va_join (wr := []) (w1 := [(h0, .inr (1, [.ref q0, .ref q1, .ref q2, .int (nI (n - ((a + 1) - a))), .int (nI k), .int d])), (q0, .inl (cA, 3000, .inl F2)), (q1, .inl (cB, 40, .inl G)), (q2, .inl (cC, 20, .inl E))]) hP hD [0, 1, 2, 3] [] rfl rfl (by decide) (by decide) hk1 hFc hP1 hD1
      have hP : va_P (dC, dI) vwCl [(h0, .inr (1, [.ref q0, .ref q1, .ref q2, .int (nI (n - ((a + 1) - a))), .int (nI k), .int d])), (q0, .inl (cA, 3000, .inl F2)), (q1, .inl (cB, 40, .inl G)), (q2, .inl (cC, 20, .inl E))] H := hP
      have hD : va_D A [(h0, .inr (1, [.ref q0, .ref q1, .ref q2, .int (nI (n - ((a + 1) - a))), .int (nI k), .int d])), (q0, .inl (cA, 3000, .inl F2)), (q1, .inl (cB, 40, .inl G)), (q2, .inl (cC, 20, .inl E))] := hD
      refine lv_iload_n hx hb dX1_take_29 rfl (lv_at hl 0 rfl) ?_
      subst hQ
      exact W.iret (v := T0 a) hx hb hr (fun t ht hW => ⟨⟨T0 a, ((n - ((a + 1) - a), F2, k, G), E, d), rfl, (by rw [(show sp_take (nI a) n T0 k G0 = (T0 a, (n - 1, tl_rep T0 a (a + 1) G0 0, k, G0)) from (by unfold sp_take; (try simp only [nI_clamp lta]); (repeat' split) <;> first | rfl | (exfalso; omega)))]; exact ⟨rfl, (by rw [show n - 1 = n - (a + 1 - a) by omega]; exact tE_mk hF9 hG (by omega) hk)⟩), by rw [ht]; exact hP, va_K.moved hW.alike hK, hD⟩, hS.F ht⟩) hS.2.2 dX1_take_30
    · skip
      have h9 := (not_congr (tl_lt (show x.toInt = x.toInt from rfl) (show (nI n).toInt = ((n : Nat) : Int) from (nI_toInt (by omega))))).mp h9
      refine lv_iconst (v := (-1 : Int32)) hx hb dX1_take_12 (by decide) ?_
      subst hQ
      exact W.iret (v := (-1 : Int32)) hx hb hr (fun t ht hW => ⟨⟨(-1 : Int32), ((n, T, k, G), E, d), rfl, (by rw [(show sp_take x n T0 k G0 = ((-1 : Int32), (n, T0, k, G0)) from (by unfold sp_take; (repeat' split) <;> first | rfl | (exfalso; omega)))]; exact ⟨rfl, tE_mk hT hG hn hk⟩), by rw [ht]; exact hP, va_K.moved hW.alike hK, hD⟩, hS.F ht⟩) hS.2.2 dX1_take_13
set_option maxHeartbeats 4000000 in
set_option maxRecDepth 100000 in
theorem c_M_set (l : Launch) (dC : Nat → ClassId) (dI : Nat → Nat → Nat) (h0 q0 q1 q2 sz n k : Nat) (cA cB cC : ClassId) (T G T0 G0 : Nat → Int32) (hT : ∀ j, j < n → T j = T0 j) (hG : ∀ j, j < k → G j = G0 j) (hn : n ≤ 3000) (hk : k ≤ 40) (E : Nat → Int32) (d : Int32) (x y : Int32) : Met l yX1_set wsX1_set ({ frames := 1, cells := 0, slots := 0, locals := 21 } : Room) (va_Pc [.ref h0, .int x, .int y] (fun U => U.heap.size = sz ∧ va_P (dC, dI) vwCl [(h0, .inr (1, [.ref q0, .ref q1, .ref q2, .int (nI n), .int (nI k), .int d])), (q0, .inl (cA, 3000, .inl T)), (q1, .inl (cB, 40, .inl G)), (q2, .inl (cC, 20, .inl E))] U.heap ∧ va_K (dC, dI) vwCl [(cA, .int), (cB, .int), (cC, .int)] U ∧ va_D (fun _ => True) [(h0, .inr (1, [.ref q0, .ref q1, .ref q2, .int (nI n), .int (nI k), .int d])), (q0, .inl (cA, 3000, .inl T)), (q1, .inl (cB, 40, .inl G)), (q2, .inl (cC, 20, .inl E))])) (va_Qi (fun (r : Int32) (u : tM) => r = (sp_set x y n T0 k G0).1 ∧ tE u.1 (sp_set x y n T0 k G0).2) (at_M dC dI (va_A [(h0, .inr (1, [.ref q0, .ref q1, .ref q2, .int (nI n), .int (nI k), .int d])), (q0, .inl (cA, 3000, .inl T)), (q1, .inl (cB, 40, .inl G)), (q2, .inl (cC, 20, .inl E))] sz) h0 q0 q1 q2 cA cB cC) (va_A [(h0, .inr (1, [.ref q0, .ref q1, .ref q2, .int (nI n), .int (nI k), .int d])), (q0, .inl (cA, 3000, .inl T)), (q1, .inl (cB, 40, .inl G)), (q2, .inl (cC, 20, .inl E))] sz)) 0 0 (va_A [(h0, .inr (1, [.ref q0, .ref q1, .ref q2, .int (nI n), .int (nI k), .int d])), (q0, .inl (cA, 3000, .inl T)), (q1, .inl (cB, 40, .inl G)), (q2, .inl (cC, 20, .inl E))] sz) := by
  refine Met.ofW (cc := cX1_set) (maxL := 4) (ret := (some .int)) (by decide) rfl ?_
  intro p e s m args below meth c s₁ B hml hv
  obtain ⟨rfl, hsz, hP, hK, hD0⟩ := hv
  have hx := B.exec
  have hb := B.bytes
  have hr := B.returns
  have hts := atoms_spec (ws := wsX1_set) B.pre
  have hown : s.vm.findClass RX1 = some m.cls := findClass_of_methodNamed B.named
  have hlocks := B.notSynchronized
  subst hsz
  have hD := hD0.self (sz := s.heap.size)
  generalize hAe : va_A [(h0, .inr (1, [.ref q0, .ref q1, .ref q2, .int (nI n), .int (nI k), .int d])), (q0, .inl (cA, 3000, .inl T)), (q1, .inl (cB, 40, .inl G)), (q2, .inl (cC, 20, .inl E))] s.heap.size = A at hD ⊢
  have hA : ∀ q : Nat, s.heap.size ≤ q → A q := fun q h => by rw [← hAe]; exact Or.inr h
  have hS : va_S A s.heap s.heap [] := va_S.rf
  have hP : va_P (dC, dI) vwCl [(h0, .inr (1, [.ref q0, .ref q1, .ref q2, .int (nI n), .int (nI k), .int d])), (q0, .inl (cA, 3000, .inl T)), (q1, .inl (cB, 40, .inl G)), (q2, .inl (cC, 20, .inl E))] s.heap := hP
  have hinX1 : ∀ w ∈ u_ws RX1 TX1 6, w ∈ wsX1_set := fun w h => List.mem_cons_of_mem _ (inX1 w h)
  have hl := lv_entry ([.ref h0, .int x, .int y]) (n := 4) (Nat.le_of_ble_eq_true rfl)
  rw [lg_entry_eq]
  generalize (lg_sl ([.ref h0, .int x, .int y]) ++ List.replicate (4 - (lg_sl ([.ref h0, .int x, .int y])).length) Slot.unset).toArray = ls at hl ⊢
  have hl : lv_has ls 4 [(0, .ref h0), (1, .int x), (2, .int y)] := hl
  refine tl_q (fun Q hQ => ?_)
  refine lv_iload_n hx hb dX1_set_0 rfl (lv_at hl 1 rfl) ?_
  refine lv_if_lt (tgt := 20) hx hb dX1_set_1 rfl (fun h1 => ?_) (fun h1 => ?_)
  · skip
    have h1 := (tl_lt (show x.toInt = x.toInt from rfl) (show (0 : Int32).toInt = (0 : Int) from Int32.toInt_zero)).mp h1
    refine lv_iconst (v := (-1 : Int32)) hx hb dX1_set_20 (by decide) ?_
    subst hQ
    exact W.iret (v := (-1 : Int32)) hx hb hr (fun t ht hW => ⟨⟨(-1 : Int32), ((n, T, k, G), E, d), rfl, (by rw [(show sp_set x y n T0 k G0 = ((-1 : Int32), (n, T0, k, G0)) from (by unfold sp_set; (repeat' split) <;> first | rfl | (exfalso; omega)))]; exact ⟨rfl, tE_mk hT hG hn hk⟩), by rw [ht]; exact hP, va_K.moved hW.alike hK, hD⟩, hS.F ht⟩) hS.2.2 dX1_set_21
  · skip
    have h1 := (not_congr (tl_lt (show x.toInt = x.toInt from rfl) (show (0 : Int32).toInt = (0 : Int) from Int32.toInt_zero))).mp h1
    refine lv_iload_n hx hb dX1_set_4 rfl (lv_at hl 1 rfl) ?_
    refine lv_aload_n hx hb dX1_set_5 rfl (lv_at hl 0 rfl) ?_
    refine va_get (D := (dC, dI)) (ci := 1) (v := .int (nI n)) (C := RX1) (T := TX1) (N := 6) hx hb hts hinX1 hown hK hP 0 rfl rfl 3 (by decide) (hts _ (List.mem_cons_of_mem _ k248)) (fun _ h9 => h9) rfl dX1_set_6 ?_
    refine lv_icmp_ge (tgt := 20) hx hb dX1_set_9 rfl (fun h9 => ?_) (fun h9 => ?_)
    · skip
      have h9 := (tl_le (show (nI n).toInt = ((n : Nat) : Int) from (nI_toInt (by omega))) (show x.toInt = x.toInt from rfl)).mp h9
      refine lv_iconst (v := (-1 : Int32)) hx hb dX1_set_20 (by decide) ?_
      subst hQ
      exact W.iret (v := (-1 : Int32)) hx hb hr (fun t ht hW => ⟨⟨(-1 : Int32), ((n, T, k, G), E, d), rfl, (by rw [(show sp_set x y n T0 k G0 = ((-1 : Int32), (n, T0, k, G0)) from (by unfold sp_set; (repeat' split) <;> first | rfl | (exfalso; omega)))]; exact ⟨rfl, tE_mk hT hG hn hk⟩), by rw [ht]; exact hP, va_K.moved hW.alike hK, hD⟩, hS.F ht⟩) hS.2.2 dX1_set_21
    · skip
      have h9 := (not_congr (tl_le (show (nI n).toInt = ((n : Nat) : Int) from (nI_toInt (by omega))) (show x.toInt = x.toInt from rfl))).mp h9
      refine lv_iload_n hx hb dX1_set_12 rfl (lv_at hl 2 rfl) ?_
      refine lv_i2l hx hb dX1_set_13 rfl ?_
      have ea14_0 : y.toInt64.toInt = y.toInt := ((Int32.toInt_toInt64 _).trans rfl)
      refine vp_callSi ((va_runS (As := [.long y.toInt64]) (rest := []) ⟨hx, hb, hml, hown, hts⟩ (c_M_isSign l y.toInt64) (va_cwS 1 hts (gS_ (fun w h => List.mem_cons_of_mem _ h) k268 k269 k22 k270) rfl rfl rfl (by decide +kernel) ⟨Nat.le_of_ble_eq_true rfl, Nat.le_of_ble_eq_true rfl⟩) ⟨fun a U g mk q => q, fun U hU hW => ⟨rfl, trivial⟩⟩ rfl rfl hl.1 rfl (lv_room (Nat.le_of_ble_eq_true rfl)) dX1_set_14 ⟨Nat.le_of_ble_eq_true rfl, Nat.le_of_ble_eq_true rfl⟩).run) (fun r14 w14 => ?_)
      try dsimp only at w14
      refine lv_if_ne (tgt := 22) hx hb dX1_set_17 rfl (fun h17 => ?_) (fun h17 => ?_)
      · skip
        have h17 := (tl_b1 w14).mp h17
        obtain ⟨a, lta, rfl⟩ := tl_of (x := x) (by omega)
        have ea : (nI a).toInt = ((a : Nat) : Int) := nI_toInt lta
        refine lv_aload_n hx hb dX1_set_22 rfl (lv_at hl 0 rfl) ?_
        refine va_get (D := (dC, dI)) (ci := 1) (v := .ref q0) (C := RX1) (T := TX1) (N := 6) hx hb hts hinX1 hown hK hP 0 rfl rfl 0 (by decide) (hts _ (List.mem_cons_of_mem _ k245)) (fun _ h9 => h9) rfl dX1_set_23 ?_
        refine lv_iload_n hx hb dX1_set_26 rfl (lv_at hl 1 rfl) ?_
        refine tl_iald (v := T0 a) hx hb hK hP 1 0 rfl rfl (by omega) (by decide) (hT _ (by omega)) dX1_set_27 ?_
        refine lv_istore_n (lv' := [(3, .int (T0 a)), (0, .ref h0), (1, .int (nI a)), (2, .int y)]) hx hb dX1_set_28 rfl hl (by decide) rfl (fun ls hl => ?_)
        refine lv_aload_n hx hb dX1_set_29 rfl (lv_at hl 1 rfl) ?_
        refine va_get (D := (dC, dI)) (ci := 1) (v := .ref q0) (C := RX1) (T := TX1) (N := 6) hx hb hts hinX1 hown hK hP 0 rfl rfl 0 (by decide) (hts _ (List.mem_cons_of_mem _ k245)) (fun _ h9 => h9) rfl dX1_set_30 ?_
        refine lv_iload_n hx hb dX1_set_33 rfl (lv_at hl 2 rfl) ?_
        refine lv_iload_n hx hb dX1_set_34 rfl (lv_at hl 3 rfl) ?_
        refine tl_iast hx hb hK hP hD hS 1 0 rfl rfl (by omega) (by decide) dX1_set_35 (fun H locs hP hD hS => ?_)
        have hP : va_P (dC, dI) vwCl [(h0, .inr (1, [.ref q0, .ref q1, .ref q2, .int (nI n), .int (nI k), .int d])), (q0, .inl (cA, 3000, .inl (upd T a y))), (q1, .inl (cB, 40, .inl G)), (q2, .inl (cC, 20, .inl E))] H := hP
        have hD : va_D A [(h0, .inr (1, [.ref q0, .ref q1, .ref q2, .int (nI n), .int (nI k), .int d])), (q0, .inl (cA, 3000, .inl (upd T a y))), (q1, .inl (cB, 40, .inl G)), (q2, .inl (cC, 20, .inl E))] := hD
        refine lv_iload_n hx hb dX1_set_36 rfl (lv_at hl 0 rfl) ?_
        subst hQ
        exact W.iret (v := T0 a) hx hb hr (fun t ht hW => ⟨⟨T0 a, ((n, upd T a y, k, G), E, d), rfl, (by rw [(show sp_set (nI a) y n T0 k G0 = (T0 a, (n, upd T0 a y, k, G0)) from (by unfold sp_set; (try simp only [nI_clamp lta]); (repeat' split) <;> first | rfl | (exfalso; omega)))]; exact ⟨rfl, tE_mk (pu_ups hT) hG hn hk⟩), by rw [ht]; exact hP, va_K.moved hW.alike hK, hD⟩, hS.F ht⟩) hS.2.2 dX1_set_37
      · skip
        have h17 := (tl_b0 w14).mp h17
        refine lv_iconst (v := (-1 : Int32)) hx hb dX1_set_20 (by decide) ?_
        subst hQ
        exact W.iret (v := (-1 : Int32)) hx hb hr (fun t ht hW => ⟨⟨(-1 : Int32), ((n, T, k, G), E, d), rfl, (by rw [(show sp_set x y n T0 k G0 = ((-1 : Int32), (n, T0, k, G0)) from (by unfold sp_set; (repeat' split) <;> first | rfl | (exfalso; omega)))]; exact ⟨rfl, tE_mk hT hG hn hk⟩), by rw [ht]; exact hP, va_K.moved hW.alike hK, hD⟩, hS.F ht⟩) hS.2.2 dX1_set_21
set_option maxHeartbeats 4000000 in
set_option maxRecDepth 100000 in
theorem c_M_turn (l : Launch) (dC : Nat → ClassId) (dI : Nat → Nat → Nat) (h0 q0 q1 q2 sz n k : Nat) (cA cB cC : ClassId) (T G T0 G0 : Nat → Int32) (hT : ∀ j, j < n → T j = T0 j) (hG : ∀ j, j < k → G j = G0 j) (hn : n ≤ 3000) (hk : k ≤ 40) (E : Nat → Int32) (d : Int32)  : Met l yX1_turn wsX1_turn ({ frames := 0, cells := 0, slots := 0, locals := 0 } : Room) (va_Pc [.ref h0] (fun U => U.heap.size = sz ∧ va_P (dC, dI) vwCl [(h0, .inr (1, [.ref q0, .ref q1, .ref q2, .int (nI n), .int (nI k), .int d])), (q0, .inl (cA, 3000, .inl T)), (q1, .inl (cB, 40, .inl G)), (q2, .inl (cC, 20, .inl E))] U.heap ∧ va_K (dC, dI) vwCl [(cA, .int), (cB, .int), (cC, .int)] U ∧ va_D (fun _ => True) [(h0, .inr (1, [.ref q0, .ref q1, .ref q2, .int (nI n), .int (nI k), .int d])), (q0, .inl (cA, 3000, .inl T)), (q1, .inl (cB, 40, .inl G)), (q2, .inl (cC, 20, .inl E))])) (va_Qi (fun (r : Int32) (u : tM) => r = (sp_turn n T0 k G0).1 ∧ tE u.1 (sp_turn n T0 k G0).2) (at_M dC dI (va_A [(h0, .inr (1, [.ref q0, .ref q1, .ref q2, .int (nI n), .int (nI k), .int d])), (q0, .inl (cA, 3000, .inl T)), (q1, .inl (cB, 40, .inl G)), (q2, .inl (cC, 20, .inl E))] sz) h0 q0 q1 q2 cA cB cC) (va_A [(h0, .inr (1, [.ref q0, .ref q1, .ref q2, .int (nI n), .int (nI k), .int d])), (q0, .inl (cA, 3000, .inl T)), (q1, .inl (cB, 40, .inl G)), (q2, .inl (cC, 20, .inl E))] sz)) 0 0 (va_A [(h0, .inr (1, [.ref q0, .ref q1, .ref q2, .int (nI n), .int (nI k), .int d])), (q0, .inl (cA, 3000, .inl T)), (q1, .inl (cB, 40, .inl G)), (q2, .inl (cC, 20, .inl E))] sz) := by
  refine Met.ofW (cc := cX1_turn) (maxL := 3) (ret := (some .int)) (by decide) rfl ?_
  intro p e s m args below meth c s₁ B hml hv
  obtain ⟨rfl, hsz, hP, hK, hD0⟩ := hv
  have hx := B.exec
  have hb := B.bytes
  have hr := B.returns
  have hts := atoms_spec (ws := wsX1_turn) B.pre
  have hown : s.vm.findClass RX1 = some m.cls := findClass_of_methodNamed B.named
  have hlocks := B.notSynchronized
  subst hsz
  have hD := hD0.self (sz := s.heap.size)
  generalize hAe : va_A [(h0, .inr (1, [.ref q0, .ref q1, .ref q2, .int (nI n), .int (nI k), .int d])), (q0, .inl (cA, 3000, .inl T)), (q1, .inl (cB, 40, .inl G)), (q2, .inl (cC, 20, .inl E))] s.heap.size = A at hD ⊢
  have hA : ∀ q : Nat, s.heap.size ≤ q → A q := fun q h => by rw [← hAe]; exact Or.inr h
  have hS : va_S A s.heap s.heap [] := va_S.rf
  have hP : va_P (dC, dI) vwCl [(h0, .inr (1, [.ref q0, .ref q1, .ref q2, .int (nI n), .int (nI k), .int d])), (q0, .inl (cA, 3000, .inl T)), (q1, .inl (cB, 40, .inl G)), (q2, .inl (cC, 20, .inl E))] s.heap := hP
  have hinX1 : ∀ w ∈ u_ws RX1 TX1 6, w ∈ wsX1_turn := fun w h => List.mem_cons_of_mem _ (inX1 w h)
  have hl := lv_entry ([.ref h0]) (n := 3) (Nat.le_of_ble_eq_true rfl)
  rw [lg_entry_eq]
  generalize (lg_sl ([.ref h0]) ++ List.replicate (3 - (lg_sl ([.ref h0])).length) Slot.unset).toArray = ls at hl ⊢
  have hl : lv_has ls 3 [(0, .ref h0)] := hl
  refine tl_q (fun Q hQ => ?_)
  refine lv_iconst (v := nI 0) hx hb dX1_turn_0 (by decide) ?_
  refine lv_istore_n (lv' := [(1, .int (nI 0)), (0, .ref h0)]) hx hb dX1_turn_1 rfl hl (by decide) rfl (fun ls hl => ?_)
  have LP2 : ∀ (fu : Nat) (j : Nat) (F : Nat → Int32) (H : Heap) (locs : List Loc) (ls : Array Slot), n / 2 - j < fu → j ≤ n / 2 → (∀ i, i < n → F i = if i < j ∨ n - 1 - j < i then T0 (n - 1 - i) else T0 i) → lv_has ls 3 [(0, .ref h0), (1, .int (nI j))] → va_P (dC, dI) vwCl [(h0, .inr (1, [.ref q0, .ref q1, .ref q2, .int (nI n), .int (nI k), .int d])), (q0, .inl (cA, 3000, .inl F)), (q1, .inl (cB, 40, .inl G)), (q2, .inl (cC, 20, .inl E))] H → va_D A [(h0, .inr (1, [.ref q0, .ref q1, .ref q2, .int (nI n), .int (nI k), .int d])), (q0, .inl (cA, 3000, .inl F)), (q1, .inl (cB, 40, .inl G)), (q2, .inl (cC, 20, .inl E))] → va_S A s.heap H locs → W p l e (headSpec wsX1_turn ({ frames := 0, cells := 0, slots := 0, locals := 0 } : Room)).room s m ([.ref h0] : List Value).toArray below meth c H locs 0 0 Q (F0 m 2 ls []) := by
    intro fu
    induction fu with
    | zero => intro j F H locs ls hfu; exact absurd hfu (Nat.not_lt_zero _)
    | succ fu ih =>
      intro j F H locs ls hfu hj hF hl hP hD hS
      refine lv_iload_n hx hb dX1_turn_2 rfl (lv_at hl 1 rfl) ?_
      refine lv_aload_n hx hb dX1_turn_3 rfl (lv_at hl 0 rfl) ?_
      refine va_get (D := (dC, dI)) (ci := 1) (v := .int (nI n)) (C := RX1) (T := TX1) (N := 6) hx hb hts hinX1 hown hK hP 0 rfl rfl 3 (by decide) (hts _ (List.mem_cons_of_mem _ k248)) (fun _ h9 => h9) rfl dX1_turn_4 ?_
      refine lv_iconst (v := nI 2) hx hb dX1_turn_7 (by decide) ?_
      refine lv_idiv hx hb dX1_turn_8 (by decide) ?_
      refine tl_top (pk_div (by omega) (by omega) (by omega)) ?_
      refine lv_icmp_ge (tgt := 58) hx hb dX1_turn_9 rfl (fun h9 => ?_) (fun h9 => ?_)
      · skip
        have h9 := (tl_le (show (nI (n / 2)).toInt = ((n / 2 : Nat) : Int) from (nI_toInt (by omega))) (show (nI j).toInt = ((j : Nat) : Int) from (nI_toInt (by omega)))).mp h9
        refine lv_aload_n hx hb dX1_turn_58 rfl (lv_at hl 0 rfl) ?_
        refine va_get (D := (dC, dI)) (ci := 1) (v := .int (nI n)) (C := RX1) (T := TX1) (N := 6) hx hb hts hinX1 hown hK hP 0 rfl rfl 3 (by decide) (hts _ (List.mem_cons_of_mem _ k248)) (fun _ h9 => h9) rfl dX1_turn_59 ?_
        subst hQ
        exact W.iret (v := nI n) hx hb hr (fun t ht hW => ⟨⟨nI n, ((n, F, k, G), E, d), rfl, ⟨rfl, tE_mk (pu_turn_end hj (by omega) hF) hG hn hk⟩, by rw [ht]; exact hP, va_K.moved hW.alike hK, hD⟩, hS.F ht⟩) hS.2.2 dX1_turn_62
      · skip
        have h9 := (not_congr (tl_le (show (nI (n / 2)).toInt = ((n / 2 : Nat) : Int) from (nI_toInt (by omega))) (show (nI j).toInt = ((j : Nat) : Int) from (nI_toInt (by omega))))).mp h9
        refine lv_aload_n hx hb dX1_turn_12 rfl (lv_at hl 0 rfl) ?_
        refine va_get (D := (dC, dI)) (ci := 1) (v := .ref q0) (C := RX1) (T := TX1) (N := 6) hx hb hts hinX1 hown hK hP 0 rfl rfl 0 (by decide) (hts _ (List.mem_cons_of_mem _ k245)) (fun _ h9 => h9) rfl dX1_turn_13 ?_
        refine lv_iload_n hx hb dX1_turn_16 rfl (lv_at hl 1 rfl) ?_
        refine tl_iald (v := T0 j) hx hb hK hP 1 0 rfl rfl (by omega) (by decide) (by rw [hF j (by omega), if_neg (by omega)]) dX1_turn_17 ?_
        refine lv_istore_n (lv' := [(2, .int (T0 j)), (0, .ref h0), (1, .int (nI j))]) hx hb dX1_turn_18 rfl hl (by decide) rfl (fun ls hl => ?_)
        refine lv_aload_n hx hb dX1_turn_19 rfl (lv_at hl 1 rfl) ?_
        refine va_get (D := (dC, dI)) (ci := 1) (v := .ref q0) (C := RX1) (T := TX1) (N := 6) hx hb hts hinX1 hown hK hP 0 rfl rfl 0 (by decide) (hts _ (List.mem_cons_of_mem _ k245)) (fun _ h9 => h9) rfl dX1_turn_20 ?_
        refine lv_iload_n hx hb dX1_turn_23 rfl (lv_at hl 2 rfl) ?_
        refine lv_aload_n hx hb dX1_turn_24 rfl (lv_at hl 1 rfl) ?_
        refine va_get (D := (dC, dI)) (ci := 1) (v := .ref q0) (C := RX1) (T := TX1) (N := 6) hx hb hts hinX1 hown hK hP 0 rfl rfl 0 (by decide) (hts _ (List.mem_cons_of_mem _ k245)) (fun _ h9 => h9) rfl dX1_turn_25 ?_
        refine lv_aload_n hx hb dX1_turn_28 rfl (lv_at hl 1 rfl) ?_
        refine va_get (D := (dC, dI)) (ci := 1) (v := .int (nI n)) (C := RX1) (T := TX1) (N := 6) hx hb hts hinX1 hown hK hP 0 rfl rfl 3 (by decide) (hts _ (List.mem_cons_of_mem _ k248)) (fun _ h9 => h9) rfl dX1_turn_29 ?_
        refine lv_iconst (v := nI 1) hx hb dX1_turn_32 (by decide) ?_
        refine lv_isub hx hb dX1_turn_33 ?_
        refine tl_top (pk_sub (by omega)) ?_
        refine lv_iload_n hx hb dX1_turn_34 rfl (lv_at hl 2 rfl) ?_
        refine lv_isub hx hb dX1_turn_35 ?_
        refine tl_top (pk_sub (by omega)) ?_
        refine tl_iald (v := T0 (n - 1 - j)) hx hb hK hP 1 0 rfl rfl (by omega) (by decide) (by rw [hF _ (by omega), if_neg (by omega)]) dX1_turn_36 ?_
        refine tl_iast hx hb hK hP hD hS 1 0 rfl rfl (by omega) (by decide) dX1_turn_37 (fun H locs hP hD hS => ?_)
        have hP : va_P (dC, dI) vwCl [(h0, .inr (1, [.ref q0, .ref q1, .ref q2, .int (nI n), .int (nI k), .int d])), (q0, .inl (cA, 3000, .inl (upd F j (T0 (n - 1 - j))))), (q1, .inl (cB, 40, .inl G)), (q2, .inl (cC, 20, .inl E))] H := hP
        have hD : va_D A [(h0, .inr (1, [.ref q0, .ref q1, .ref q2, .int (nI n), .int (nI k), .int d])), (q0, .inl (cA, 3000, .inl (upd F j (T0 (n - 1 - j))))), (q1, .inl (cB, 40, .inl G)), (q2, .inl (cC, 20, .inl E))] := hD
        refine lv_aload_n hx hb dX1_turn_38 rfl (lv_at hl 1 rfl) ?_
        refine va_get (D := (dC, dI)) (ci := 1) (v := .ref q0) (C := RX1) (T := TX1) (N := 6) hx hb hts hinX1 hown hK hP 0 rfl rfl 0 (by decide) (hts _ (List.mem_cons_of_mem _ k245)) (fun _ h9 => h9) rfl dX1_turn_39 ?_
        refine lv_aload_n hx hb dX1_turn_42 rfl (lv_at hl 1 rfl) ?_
        refine va_get (D := (dC, dI)) (ci := 1) (v := .int (nI n)) (C := RX1) (T := TX1) (N := 6) hx hb hts hinX1 hown hK hP 0 rfl rfl 3 (by decide) (hts _ (List.mem_cons_of_mem _ k248)) (fun _ h9 => h9) rfl dX1_turn_43 ?_
        refine lv_iconst (v := nI 1) hx hb dX1_turn_46 (by decide) ?_
        refine lv_isub hx hb dX1_turn_47 ?_
        refine tl_top (pk_sub (by omega)) ?_
        refine lv_iload_n hx hb dX1_turn_48 rfl (lv_at hl 2 rfl) ?_
        refine lv_isub hx hb dX1_turn_49 ?_
        refine tl_top (pk_sub (by omega)) ?_
        refine lv_iload_n hx hb dX1_turn_50 rfl (lv_at hl 0 rfl) ?_
        refine tl_iast hx hb hK hP hD hS 1 0 rfl rfl (by omega) (by decide) dX1_turn_51 (fun H locs hP hD hS => ?_)
        have hP : va_P (dC, dI) vwCl [(h0, .inr (1, [.ref q0, .ref q1, .ref q2, .int (nI n), .int (nI k), .int d])), (q0, .inl (cA, 3000, .inl (upd (upd F j (T0 (n - 1 - j))) (n - 1 - j) (T0 j)))), (q1, .inl (cB, 40, .inl G)), (q2, .inl (cC, 20, .inl E))] H := hP
        have hD : va_D A [(h0, .inr (1, [.ref q0, .ref q1, .ref q2, .int (nI n), .int (nI k), .int d])), (q0, .inl (cA, 3000, .inl (upd (upd F j (T0 (n - 1 - j))) (n - 1 - j) (T0 j)))), (q1, .inl (cB, 40, .inl G)), (q2, .inl (cC, 20, .inl E))] := hD
        refine lv_iinc (lv' := [(1, .int (nI (j + 1))), (2, .int (T0 j)), (0, .ref h0)]) (k := 2) (v := nI (j + 1)) hx hb dX1_turn_52 hl rfl (tl_inc1 _) (by decide) rfl (fun ls hl => ?_)
        refine lv_goto (tgt := 2) hx hb dX1_turn_55 rfl ?_
        exact ih (j + 1) (upd (upd F j (T0 (n - 1 - j))) (n - 1 - j) (T0 j)) _ _ ls (by omega) (by omega) (pu_turn (by omega) hF) (lv_sub hl [2, 0] rfl) hP hD hS
  exact LP2 _ 0 T _ _ ls (Nat.lt_succ_self _) (by omega) (pu_turn0 hT) (lv_sub hl [1, 0] rfl) hP hD hS
set_option maxHeartbeats 4000000 in
set_option maxRecDepth 100000 in
theorem c_M_length (l : Launch) (dC : Nat → ClassId) (dI : Nat → Nat → Nat) (h0 q0 q1 q2 sz n k : Nat) (cA cB cC : ClassId) (T G T0 G0 : Nat → Int32) (hT : ∀ j, j < n → T j = T0 j) (hG : ∀ j, j < k → G j = G0 j) (hn : n ≤ 3000) (hk : k ≤ 40) (E : Nat → Int32) (d : Int32) (x : Int32) : Met l yX1_length wsX1_length ({ frames := 0, cells := 0, slots := 0, locals := 0 } : Room) (va_Pc [.ref h0, .int x] (fun U => U.heap.size = sz ∧ va_P (dC, dI) vwCl [(h0, .inr (1, [.ref q0, .ref q1, .ref q2, .int (nI n), .int (nI k), .int d])), (q0, .inl (cA, 3000, .inl T)), (q1, .inl (cB, 40, .inl G)), (q2, .inl (cC, 20, .inl E))] U.heap ∧ va_K (dC, dI) vwCl [(cA, .int), (cB, .int), (cC, .int)] U ∧ va_D (fun _ => True) [(h0, .inr (1, [.ref q0, .ref q1, .ref q2, .int (nI n), .int (nI k), .int d])), (q0, .inl (cA, 3000, .inl T)), (q1, .inl (cB, 40, .inl G)), (q2, .inl (cC, 20, .inl E))])) (va_Qi (fun (r : Int32) (u : tM) => r = (sp_length x n T0 k G0).1 ∧ tE u.1 (sp_length x n T0 k G0).2) (at_M dC dI (va_A [(h0, .inr (1, [.ref q0, .ref q1, .ref q2, .int (nI n), .int (nI k), .int d])), (q0, .inl (cA, 3000, .inl T)), (q1, .inl (cB, 40, .inl G)), (q2, .inl (cC, 20, .inl E))] sz) h0 q0 q1 q2 cA cB cC) (va_A [(h0, .inr (1, [.ref q0, .ref q1, .ref q2, .int (nI n), .int (nI k), .int d])), (q0, .inl (cA, 3000, .inl T)), (q1, .inl (cB, 40, .inl G)), (q2, .inl (cC, 20, .inl E))] sz)) 0 0 (va_A [(h0, .inr (1, [.ref q0, .ref q1, .ref q2, .int (nI n), .int (nI k), .int d])), (q0, .inl (cA, 3000, .inl T)), (q1, .inl (cB, 40, .inl G)), (q2, .inl (cC, 20, .inl E))] sz) := by
  refine Met.ofW (cc := cX1_length) (maxL := 3) (ret := (some .int)) (by decide) rfl ?_
  intro p e s m args below meth c s₁ B hml hv
  obtain ⟨rfl, hsz, hP, hK, hD0⟩ := hv
  have hx := B.exec
  have hb := B.bytes
  have hr := B.returns
  have hts := atoms_spec (ws := wsX1_length) B.pre
  have hown : s.vm.findClass RX1 = some m.cls := findClass_of_methodNamed B.named
  have hlocks := B.notSynchronized
  subst hsz
  have hD := hD0.self (sz := s.heap.size)
  generalize hAe : va_A [(h0, .inr (1, [.ref q0, .ref q1, .ref q2, .int (nI n), .int (nI k), .int d])), (q0, .inl (cA, 3000, .inl T)), (q1, .inl (cB, 40, .inl G)), (q2, .inl (cC, 20, .inl E))] s.heap.size = A at hD ⊢
  have hA : ∀ q : Nat, s.heap.size ≤ q → A q := fun q h => by rw [← hAe]; exact Or.inr h
  have hS : va_S A s.heap s.heap [] := va_S.rf
  have hP : va_P (dC, dI) vwCl [(h0, .inr (1, [.ref q0, .ref q1, .ref q2, .int (nI n), .int (nI k), .int d])), (q0, .inl (cA, 3000, .inl T)), (q1, .inl (cB, 40, .inl G)), (q2, .inl (cC, 20, .inl E))] s.heap := hP
  have hinX1 : ∀ w ∈ u_ws RX1 TX1 6, w ∈ wsX1_length := fun w h => List.mem_cons_of_mem _ (inX1 w h)
  have hl := lv_entry ([.ref h0, .int x]) (n := 3) (Nat.le_of_ble_eq_true rfl)
  rw [lg_entry_eq]
  generalize (lg_sl ([.ref h0, .int x]) ++ List.replicate (3 - (lg_sl ([.ref h0, .int x])).length) Slot.unset).toArray = ls at hl ⊢
  have hl : lv_has ls 3 [(0, .ref h0), (1, .int x)] := hl
  refine tl_q (fun Q hQ => ?_)
  refine lv_iload_n hx hb dX1_length_0 rfl (lv_at hl 1 rfl) ?_
  refine lv_if_ge (tgt := 6) hx hb dX1_length_1 rfl (fun h1 => ?_) (fun h1 => ?_)
  · skip
    have h1 := (tl_le (show (0 : Int32).toInt = (0 : Int) from Int32.toInt_zero) (show x.toInt = x.toInt from rfl)).mp h1
    refine lv_iload_n hx hb dX1_length_6 rfl (lv_at hl 1 rfl) ?_
    refine lv_sipush (v := nI 3000) hx hb dX1_length_7 (by decide) ?_
    refine lv_icmp_le (tgt := 16) hx hb dX1_length_10 rfl (fun h10 => ?_) (fun h10 => ?_)
    · skip
      have h10 := (tl_le (show x.toInt = x.toInt from rfl) (show (nI 3000).toInt = (3000 : Int) from (by decide))).mp h10
      obtain ⟨a, lta, rfl⟩ := tl_of (x := x) (by omega)
      have ea : (nI a).toInt = ((a : Nat) : Int) := nI_toInt lta
      refine lv_aload_n hx hb dX1_length_16 rfl (lv_at hl 0 rfl) ?_
      refine va_get (D := (dC, dI)) (ci := 1) (v := .int (nI n)) (C := RX1) (T := TX1) (N := 6) hx hb hts hinX1 hown hK hP 0 rfl rfl 3 (by decide) (hts _ (List.mem_cons_of_mem _ k248)) (fun _ h9 => h9) rfl dX1_length_17 ?_
      refine lv_istore_n (lv' := [(2, .int (nI n)), (0, .ref h0), (1, .int (nI a))]) hx hb dX1_length_20 rfl hl (by decide) rfl (fun ls hl => ?_)
      have LP21 : ∀ (fu : Nat) (j : Nat) (F : Nat → Int32) (H : Heap) (locs : List Loc) (ls : Array Slot), a - j < fu → n ≤ j → j ≤ a ∨ j = n → (∀ i, i < j → F i = if i < n then T0 i else 0) → lv_has ls 3 [(0, .ref h0), (1, .int (nI a)), (2, .int (nI j))] → va_P (dC, dI) vwCl [(h0, .inr (1, [.ref q0, .ref q1, .ref q2, .int (nI n), .int (nI k), .int d])), (q0, .inl (cA, 3000, .inl F)), (q1, .inl (cB, 40, .inl G)), (q2, .inl (cC, 20, .inl E))] H → va_D A [(h0, .inr (1, [.ref q0, .ref q1, .ref q2, .int (nI n), .int (nI k), .int d])), (q0, .inl (cA, 3000, .inl F)), (q1, .inl (cB, 40, .inl G)), (q2, .inl (cC, 20, .inl E))] → va_S A s.heap H locs → W p l e (headSpec wsX1_length ({ frames := 0, cells := 0, slots := 0, locals := 0 } : Room)).room s m ([.ref h0, .int (nI a)] : List Value).toArray below meth c H locs 0 0 Q (F0 m 21 ls []) := by
        intro fu
        induction fu with
        | zero => intro j F H locs ls hfu; exact absurd hfu (Nat.not_lt_zero _)
        | succ fu ih =>
          intro j F H locs ls hfu hj hj2 hF hl hP hD hS
          refine lv_iload_n hx hb dX1_length_21 rfl (lv_at hl 2 rfl) ?_
          refine lv_iload_n hx hb dX1_length_22 rfl (lv_at hl 1 rfl) ?_
          refine lv_icmp_ge (tgt := 39) hx hb dX1_length_23 rfl (fun h23 => ?_) (fun h23 => ?_)
          · skip
            have h23 := (tl_le (show (nI a).toInt = ((a : Nat) : Int) from (nI_toInt (by omega))) (show (nI j).toInt = ((j : Nat) : Int) from (nI_toInt (by omega)))).mp h23
            refine lv_aload_n hx hb dX1_length_39 rfl (lv_at hl 0 rfl) ?_
            refine lv_iload_n hx hb dX1_length_40 rfl (lv_at hl 1 rfl) ?_
            refine va_put (D := (dC, dI)) (ci := 1) (v := .int (nI a)) (ty := .int) (C := RX1) (T := TX1) (N := 6) hx hb hts hinX1 tyX1 tyX1_ok nmX1 hown hK hP hD hS 0 rfl rfl 3 (by decide) (hts _ (List.mem_cons_of_mem _ k248)) (fun _ h9 => h9) rfl (by decide +kernel) rfl rfl (Nat.le_of_ble_eq_true rfl) dX1_length_41 (fun H locs hP hD hS => ?_)
            have hP : va_P (dC, dI) vwCl [(h0, .inr (1, [.ref q0, .ref q1, .ref q2, .int (nI a), .int (nI k), .int d])), (q0, .inl (cA, 3000, .inl F)), (q1, .inl (cB, 40, .inl G)), (q2, .inl (cC, 20, .inl E))] H := hP
            have hD : va_D A [(h0, .inr (1, [.ref q0, .ref q1, .ref q2, .int (nI a), .int (nI k), .int d])), (q0, .inl (cA, 3000, .inl F)), (q1, .inl (cB, 40, .inl G)), (q2, .inl (cC, 20, .inl E))] := hD
            refine lv_aload_n hx hb dX1_length_44 rfl (lv_at hl 0 rfl) ?_
            refine va_get (D := (dC, dI)) (ci := 1) (v := .int (nI a)) (C := RX1) (T := TX1) (N := 6) hx hb hts hinX1 hown hK hP 0 rfl rfl 3 (by decide) (hts _ (List.mem_cons_of_mem _ k248)) (fun _ h9 => h9) rfl dX1_length_45 ?_
            subst hQ
            exact W.iret (v := nI a) hx hb hr (fun t ht hW => ⟨⟨nI a, ((a, F, k, G), E, d), rfl, (by rw [(show sp_length (nI a) n T0 k G0 = (nI a, (a, fun j => if j < n then T0 j else 0, k, G0)) from (by unfold sp_length; (try simp only [nI_clamp lta]); (repeat' split) <;> first | rfl | (exfalso; omega)))]; exact ⟨rfl, tE_mk (fun i hi => hF i (by omega)) hG (by omega) hk⟩), by rw [ht]; exact hP, va_K.moved hW.alike hK, hD⟩, hS.F ht⟩) hS.2.2 dX1_length_48
          · skip
            have h23 := (not_congr (tl_le (show (nI a).toInt = ((a : Nat) : Int) from (nI_toInt (by omega))) (show (nI j).toInt = ((j : Nat) : Int) from (nI_toInt (by omega))))).mp h23
            refine lv_aload_n hx hb dX1_length_26 rfl (lv_at hl 0 rfl) ?_
            refine va_get (D := (dC, dI)) (ci := 1) (v := .ref q0) (C := RX1) (T := TX1) (N := 6) hx hb hts hinX1 hown hK hP 0 rfl rfl 0 (by decide) (hts _ (List.mem_cons_of_mem _ k245)) (fun _ h9 => h9) rfl dX1_length_27 ?_
            refine lv_iload_n hx hb dX1_length_30 rfl (lv_at hl 2 rfl) ?_
            refine lv_iconst (v := nI 0) hx hb dX1_length_31 (by decide) ?_
            refine tl_iast hx hb hK hP hD hS 1 0 rfl rfl (by omega) (by decide) dX1_length_32 (fun H locs hP hD hS => ?_)
            have hP : va_P (dC, dI) vwCl [(h0, .inr (1, [.ref q0, .ref q1, .ref q2, .int (nI n), .int (nI k), .int d])), (q0, .inl (cA, 3000, .inl (upd F j (nI 0)))), (q1, .inl (cB, 40, .inl G)), (q2, .inl (cC, 20, .inl E))] H := hP
            have hD : va_D A [(h0, .inr (1, [.ref q0, .ref q1, .ref q2, .int (nI n), .int (nI k), .int d])), (q0, .inl (cA, 3000, .inl (upd F j (nI 0)))), (q1, .inl (cB, 40, .inl G)), (q2, .inl (cC, 20, .inl E))] := hD
            refine lv_iinc (lv' := [(2, .int (nI (j + 1))), (0, .ref h0), (1, .int (nI a))]) (k := 2) (v := nI (j + 1)) hx hb dX1_length_33 hl rfl (tl_inc1 _) (by decide) rfl (fun ls hl => ?_)
            refine lv_goto (tgt := 21) hx hb dX1_length_36 rfl ?_
            exact ih (j + 1) (upd F j (nI 0)) _ _ ls (by omega) (by omega) (by omega) (pu_len hj hF) (lv_sub hl [1, 2, 0] rfl) hP hD hS
      exact LP21 _ n T _ _ ls (Nat.lt_succ_self _) (by omega) (by omega) (fun i hi => by rw [if_pos hi]; exact hT i hi) (lv_sub hl [1, 2, 0] rfl) hP hD hS
    · skip
      have h10 := (not_congr (tl_le (show x.toInt = x.toInt from rfl) (show (nI 3000).toInt = (3000 : Int) from (by decide)))).mp h10
      refine lv_bipush (v := (-3 : Int32)) hx hb dX1_length_13 (by decide) ?_
      subst hQ
      exact W.iret (v := (-3 : Int32)) hx hb hr (fun t ht hW => ⟨⟨(-3 : Int32), ((n, T, k, G), E, d), rfl, (by rw [(show sp_length x n T0 k G0 = ((-3 : Int32), (n, T0, k, G0)) from (by unfold sp_length; (repeat' split) <;> first | rfl | (exfalso; omega)))]; exact ⟨rfl, tE_mk hT hG hn hk⟩), by rw [ht]; exact hP, va_K.moved hW.alike hK, hD⟩, hS.F ht⟩) hS.2.2 dX1_length_15
  · skip
    have h1 := (not_congr (tl_le (show (0 : Int32).toInt = (0 : Int) from Int32.toInt_zero) (show x.toInt = x.toInt from rfl))).mp h1
    refine lv_iconst (v := (-1 : Int32)) hx hb dX1_length_4 (by decide) ?_
    subst hQ
    exact W.iret (v := (-1 : Int32)) hx hb hr (fun t ht hW => ⟨⟨(-1 : Int32), ((n, T, k, G), E, d), rfl, (by rw [(show sp_length x n T0 k G0 = ((-1 : Int32), (n, T0, k, G0)) from (by unfold sp_length; (repeat' split) <;> first | rfl | (exfalso; omega)))]; exact ⟨rfl, tE_mk hT hG hn hk⟩), by rw [ht]; exact hP, va_K.moved hW.alike hK, hD⟩, hS.F ht⟩) hS.2.2 dX1_length_5
end
section
set_option maxHeartbeats 4000000 in
set_option maxRecDepth 100000 in
theorem c_M_letters (l : Launch) (dC : Nat → ClassId) (dI : Nat → Nat → Nat) (h0 q0 q1 q2 sz n k : Nat) (cA cB cC : ClassId) (T G T0 G0 : Nat → Int32) (hT : ∀ j, j < n → T j = T0 j) (hG : ∀ j, j < k → G j = G0 j) (hn : n ≤ 3000) (hk : k ≤ 40) (E : Nat → Int32) (d : Int32) (x : Int32) (tY tN : Nat) : Met l yX1_letters wsX1_letters ({ frames := 1, cells := 0, slots := 0, locals := 21 } : Room) (va_Pc [.ref h0, .int x] (fun U => U.heap.size = sz ∧ va_P (dC, dI) vwCl [(h0, .inr (1, [.ref q0, .ref q1, .ref q2, .int (nI n), .int (nI k), .int d])), (q0, .inl (cA, 3000, .inl T)), (q1, .inl (cB, 40, .inl G)), (q2, .inl (cC, 20, .inl E))] U.heap ∧ va_K (dC, dI) vwCl [(cA, .int), (cB, .int), (cC, .int)] U ∧ va_D (fun _ => True) [(h0, .inr (1, [.ref q0, .ref q1, .ref q2, .int (nI n), .int (nI k), .int d])), (q0, .inl (cA, 3000, .inl T)), (q1, .inl (cB, 40, .inl G)), (q2, .inl (cC, 20, .inl E))] ∧ mK tY tN (va_A [(h0, .inr (1, [.ref q0, .ref q1, .ref q2, .int (nI n), .int (nI k), .int d])), (q0, .inl (cA, 3000, .inl T)), (q1, .inl (cB, 40, .inl G)), (q2, .inl (cC, 20, .inl E))] sz) U U.heap)) (va_Qi (fun (r : Int32) (u : tM) => r = (if x.toInt = 0 then sp_put n n tl_no 5 n T0 k G0 else sp_put n n tl_yes 4 n T0 k G0).1 ∧ tE u.1 (if x.toInt = 0 then sp_put n n tl_no 5 n T0 k G0 else sp_put n n tl_yes 4 n T0 k G0).2) (at_M dC dI (va_A [(h0, .inr (1, [.ref q0, .ref q1, .ref q2, .int (nI n), .int (nI k), .int d])), (q0, .inl (cA, 3000, .inl T)), (q1, .inl (cB, 40, .inl G)), (q2, .inl (cC, 20, .inl E))] sz) h0 q0 q1 q2 cA cB cC) (va_A [(h0, .inr (1, [.ref q0, .ref q1, .ref q2, .int (nI n), .int (nI k), .int d])), (q0, .inl (cA, 3000, .inl T)), (q1, .inl (cB, 40, .inl G)), (q2, .inl (cC, 20, .inl E))] sz)) 0 0 (va_A [(h0, .inr (1, [.ref q0, .ref q1, .ref q2, .int (nI n), .int (nI k), .int d])), (q0, .inl (cA, 3000, .inl T)), (q1, .inl (cB, 40, .inl G)), (q2, .inl (cC, 20, .inl E))] sz) := by
  refine Met.ofW (cc := cX1_letters) (maxL := 6) (ret := (some .int)) (by decide) rfl ?_
  intro p e s m args below meth c s₁ B hml hv
  obtain ⟨rfl, hsz, hP, hK, hD0, hM⟩ := hv
  have hx := B.exec
  have hb := B.bytes
  have hr := B.returns
  have hts := atoms_spec (ws := wsX1_letters) B.pre
  have hown : s.vm.findClass RX1 = some m.cls := findClass_of_methodNamed B.named
  have hlocks := B.notSynchronized
  subst hsz
  have hD := hD0.self (sz := s.heap.size)
  generalize hAe : va_A [(h0, .inr (1, [.ref q0, .ref q1, .ref q2, .int (nI n), .int (nI k), .int d])), (q0, .inl (cA, 3000, .inl T)), (q1, .inl (cB, 40, .inl G)), (q2, .inl (cC, 20, .inl E))] s.heap.size = A at hD hM ⊢
  have hA : ∀ q : Nat, s.heap.size ≤ q → A q := fun q h => by rw [← hAe]; exact Or.inr h
  have hS : va_S A s.heap s.heap [] := va_S.rf
  have hP : va_P (dC, dI) vwCl [(h0, .inr (1, [.ref q0, .ref q1, .ref q2, .int (nI n), .int (nI k), .int d])), (q0, .inl (cA, 3000, .inl T)), (q1, .inl (cB, 40, .inl G)), (q2, .inl (cC, 20, .inl E))] s.heap := hP
  have hinX1 : ∀ w ∈ u_ws RX1 TX1 6, w ∈ wsX1_letters := fun w h => List.mem_cons_of_mem _ (inX1 w h)
  have hl := lv_entry ([.ref h0, .int x]) (n := 6) (Nat.le_of_ble_eq_true rfl)
  rw [lg_entry_eq]
  generalize (lg_sl ([.ref h0, .int x]) ++ List.replicate (6 - (lg_sl ([.ref h0, .int x])).length) Slot.unset).toArray = ls at hl ⊢
  have hl : lv_has ls 6 [(0, .ref h0), (1, .int x)] := hl
  refine tl_q (fun Q hQ => ?_)
  refine lv_iload_n hx hb dX1_letters_0 rfl (lv_at hl 1 rfl) ?_
  refine lv_if_eq (tgt := 8) hx hb dX1_letters_1 rfl (fun h1 => ?_) (fun h1 => ?_)
  · skip
    have h1 := (tl_eq (show x.toInt = x.toInt from rfl) (show (0 : Int32).toInt = (0 : Int) from Int32.toInt_zero)).mp h1
    refine lv_iconst (v := nI 5) hx hb dX1_letters_8 (by decide) ?_
    refine lv_istore_n (lv' := [(2, .int (nI 5)), (0, .ref h0), (1, .int x)]) hx hb dX1_letters_9 rfl hl (by decide) rfl (fun ls hl => ?_)
    refine lv_aload_n hx hb dX1_letters_10 rfl (lv_at hl 1 rfl) ?_
    refine va_get (D := (dC, dI)) (ci := 1) (v := .int (nI n)) (C := RX1) (T := TX1) (N := 6) hx hb hts hinX1 hown hK hP 0 rfl rfl 3 (by decide) (hts _ (List.mem_cons_of_mem _ k248)) (fun _ h9 => h9) rfl dX1_letters_11 ?_
    refine lv_istore_n (lv' := [(3, .int (nI n)), (2, .int (nI 5)), (0, .ref h0), (1, .int x)]) hx hb dX1_letters_14 rfl hl (by decide) rfl (fun ls hl => ?_)
    refine lv_aload_n hx hb dX1_letters_15 rfl (lv_at hl 2 rfl) ?_
    refine lv_iload_n hx hb dX1_letters_16 rfl (lv_at hl 1 rfl) ?_
    have ea17_0 : (nI 5).toInt = (5 : Int) := (by decide)
    refine vp_callSi ((va_runV (As := [.int (nI 5)]) (rest := []) ⟨hx, hb, hml, hown, hts⟩ (c_M_full l dC dI h0 q0 q1 q2 n k cA cB cC T G T0 G0 hT hG (by omega) hk E d (nI 5) (by omega) (by omega)) (cwV 1 hts (gV_ (fun w h => List.mem_cons_of_mem _ h) k299 k301 k14 k22 k302) rfl rfl rfl (by decide +kernel) ⟨Nat.le_of_ble_eq_true rfl, Nat.le_of_ble_eq_true rfl⟩) ⟨fun a U g mk q => by obtain ⟨q0, qP, qK⟩ := q; exact ⟨q0, qP, va_K.moved (u := U) (U := U.calling g mk a) (Vm.Alike.refl U.vm) qK⟩, va_recv hK hP (ci := 1) (q0 := 0) rfl rfl, fun U hU hW => ⟨rfl, by rw [hU]; exact hP, va_K.moved hW.alike hK⟩⟩ rfl rfl hl.1 rfl (lv_room (Nat.le_of_ble_eq_true rfl)) dX1_letters_17 ⟨Nat.le_of_ble_eq_true rfl, Nat.le_of_ble_eq_true rfl⟩).run) (fun r17 w17 => ?_)
    try dsimp only at w17
    refine lv_if_eq (tgt := 26) hx hb dX1_letters_20 rfl (fun h20 => ?_) (fun h20 => ?_)
    · skip
      have h20 := (tl_b0 w17).mp h20
      refine lv_aload_n hx hb dX1_letters_26 rfl (lv_at hl 2 rfl) ?_
      refine lv_dup hx hb dX1_letters_27 rfl ?_
      refine va_get (D := (dC, dI)) (ci := 1) (v := .int (nI n)) (C := RX1) (T := TX1) (N := 6) hx hb hts hinX1 hown hK hP 0 rfl rfl 3 (by decide) (hts _ (List.mem_cons_of_mem _ k248)) (fun _ h9 => h9) rfl dX1_letters_28 ?_
      refine lv_iload_n hx hb dX1_letters_31 rfl (lv_at hl 1 rfl) ?_
      refine lv_iadd hx hb dX1_letters_32 ?_
      refine tl_top (nI_add _ _) ?_
      refine va_put (D := (dC, dI)) (ci := 1) (v := .int (nI (n + 5))) (ty := .int) (C := RX1) (T := TX1) (N := 6) hx hb hts hinX1 tyX1 tyX1_ok nmX1 hown hK hP hD hS 0 rfl rfl 3 (by decide) (hts _ (List.mem_cons_of_mem _ k248)) (fun _ h9 => h9) rfl (by decide +kernel) rfl rfl (Nat.le_of_ble_eq_true rfl) dX1_letters_33 (fun H locs hP hD hS => ?_)
      have hP : va_P (dC, dI) vwCl [(h0, .inr (1, [.ref q0, .ref q1, .ref q2, .int (nI (n + 5)), .int (nI k), .int d])), (q0, .inl (cA, 3000, .inl T)), (q1, .inl (cB, 40, .inl G)), (q2, .inl (cC, 20, .inl E))] H := hP
      have hD : va_D A [(h0, .inr (1, [.ref q0, .ref q1, .ref q2, .int (nI (n + 5)), .int (nI k), .int d])), (q0, .inl (cA, 3000, .inl T)), (q1, .inl (cB, 40, .inl G)), (q2, .inl (cC, 20, .inl E))] := hD
      refine lv_iload_n hx hb dX1_letters_36 rfl (lv_at hl 3 rfl) ?_
      refine lv_if_eq (tgt := 46) hx hb dX1_letters_37 rfl (fun h37 => ?_) (fun h37 => ?_)
      · skip
        have h37 := (tl_eq (show x.toInt = x.toInt from rfl) (show (0 : Int32).toInt = (0 : Int) from Int32.toInt_zero)).mp h37
        refine va_gets hx hb hM.2.2.1 hS hown (hts _ (List.mem_cons_of_mem _ k313)) (fun _ h9 => h9) dX1_letters_46 ?_
        refine lv_astore (lv' := [(4, .ref tN), (3, .int (nI n)), (2, .int (nI 5)), (0, .ref h0), (1, .int x)]) hx hb dX1_letters_49 hl (by decide) rfl (fun ls hl => ?_)
        refine lv_iconst (v := nI 0) hx hb dX1_letters_51 (by decide) ?_
        refine lv_istore (lv' := [(5, .int (nI 0)), (4, .ref tN), (3, .int (nI n)), (2, .int (nI 5)), (0, .ref h0), (1, .int x)]) hx hb dX1_letters_52 hl (by decide) rfl (fun ls hl => ?_)
        have LP54 : ∀ (fu : Nat) (j : Nat) (F : Nat → Int32) (H : Heap) (locs : List Loc) (ls : Array Slot), 5 - j < fu → j ≤ 5 → (∀ i, i < n + 5 → (i < n + j ∨ n + 5 ≤ i) → F i = tl_rep T0 n n tl_no 5 i) → lv_has ls 6 [(0, .ref h0), (2, .int (nI 5)), (3, .int (nI n)), (4, .ref tN), (5, .int (nI j))] → va_P (dC, dI) vwCl [(h0, .inr (1, [.ref q0, .ref q1, .ref q2, .int (nI (n + 5)), .int (nI k), .int d])), (q0, .inl (cA, 3000, .inl F)), (q1, .inl (cB, 40, .inl G)), (q2, .inl (cC, 20, .inl E))] H → va_D A [(h0, .inr (1, [.ref q0, .ref q1, .ref q2, .int (nI (n + 5)), .int (nI k), .int d])), (q0, .inl (cA, 3000, .inl F)), (q1, .inl (cB, 40, .inl G)), (q2, .inl (cC, 20, .inl E))] → va_S A s.heap H locs → W p l e (headSpec wsX1_letters ({ frames := 1, cells := 0, slots := 0, locals := 21 } : Room)).room s m ([.ref h0, .int x] : List Value).toArray below meth c H locs 0 0 Q (F0 m 54 ls []) := by
          intro fu
          induction fu with
          | zero => intro j F H locs ls hfu; exact absurd hfu (Nat.not_lt_zero _)
          | succ fu ih =>
            intro j F H locs ls hfu hj hF hl hP hD hS
            refine lv_iload hx hb dX1_letters_54 (lv_at hl 4 rfl) ?_
            refine lv_iload_n hx hb dX1_letters_56 rfl (lv_at hl 1 rfl) ?_
            refine lv_icmp_ge (tgt := 80) hx hb dX1_letters_57 rfl (fun h57 => ?_) (fun h57 => ?_)
            · skip
              have h57 := (tl_le (show (nI 5).toInt = ((5 : Nat) : Int) from (nI_toInt (by omega))) (show (nI j).toInt = ((j : Nat) : Int) from (nI_toInt (by omega)))).mp h57
              refine lv_aload_n hx hb dX1_letters_80 rfl (lv_at hl 0 rfl) ?_
              refine va_get (D := (dC, dI)) (ci := 1) (v := .int (nI (n + 5))) (C := RX1) (T := TX1) (N := 6) hx hb hts hinX1 hown hK hP 0 rfl rfl 3 (by decide) (hts _ (List.mem_cons_of_mem _ k248)) (fun _ h9 => h9) rfl dX1_letters_81 ?_
              subst hQ
              exact W.iret (v := nI (n + 5)) hx hb hr (fun t ht hW => ⟨⟨nI (n + 5), ((n + 5, F, k, G), E, d), rfl, (by rw [if_pos h1]; unfold sp_put; rw [if_pos (by omega), Nat.sub_self, Nat.sub_zero]; exact ⟨rfl, tE_mk (fun i hi => hF i hi (by omega)) hG (by omega) hk⟩), by rw [ht]; exact hP, va_K.moved hW.alike hK, hD⟩, hS.F ht⟩) hS.2.2 dX1_letters_84
            · skip
              have h57 := (not_congr (tl_le (show (nI 5).toInt = ((5 : Nat) : Int) from (nI_toInt (by omega))) (show (nI j).toInt = ((j : Nat) : Int) from (nI_toInt (by omega))))).mp h57
              refine lv_aload_n hx hb dX1_letters_60 rfl (lv_at hl 0 rfl) ?_
              refine va_get (D := (dC, dI)) (ci := 1) (v := .ref q0) (C := RX1) (T := TX1) (N := 6) hx hb hts hinX1 hown hK hP 0 rfl rfl 0 (by decide) (hts _ (List.mem_cons_of_mem _ k245)) (fun _ h9 => h9) rfl dX1_letters_61 ?_
              refine lv_iload_n hx hb dX1_letters_64 rfl (lv_at hl 2 rfl) ?_
              refine lv_iload hx hb dX1_letters_65 (lv_at hl 4 rfl) ?_
              refine lv_iadd hx hb dX1_letters_67 ?_
              refine tl_top (nI_add _ _) ?_
              refine lv_aload hx hb dX1_letters_68 (lv_at hl 3 rfl) ?_
              refine lv_iload hx hb dX1_letters_70 (lv_at hl 4 rfl) ?_
              refine va_ti (v := .int (tl_no j)) hx hb hM.2.2.2 hS (vp_in_nI (by omega) (by omega)) (by rw [nI_clamp (by omega)]) dX1_letters_72 ?_
              refine tl_iast hx hb hK hP hD hS 1 0 rfl rfl (by omega) (by decide) dX1_letters_73 (fun H locs hP hD hS => ?_)
              have hP : va_P (dC, dI) vwCl [(h0, .inr (1, [.ref q0, .ref q1, .ref q2, .int (nI (n + 5)), .int (nI k), .int d])), (q0, .inl (cA, 3000, .inl (upd F (n + j) (tl_no j)))), (q1, .inl (cB, 40, .inl G)), (q2, .inl (cC, 20, .inl E))] H := hP
              have hD : va_D A [(h0, .inr (1, [.ref q0, .ref q1, .ref q2, .int (nI (n + 5)), .int (nI k), .int d])), (q0, .inl (cA, 3000, .inl (upd F (n + j) (tl_no j)))), (q1, .inl (cB, 40, .inl G)), (q2, .inl (cC, 20, .inl E))] := hD
              refine lv_iinc (lv' := [(5, .int (nI (j + 1))), (0, .ref h0), (2, .int (nI 5)), (3, .int (nI n)), (4, .ref tN)]) (k := 4) (v := nI (j + 1)) hx hb dX1_letters_74 hl rfl (tl_inc1 _) (by decide) rfl (fun ls hl => ?_)
              refine lv_goto (tgt := 54) hx hb dX1_letters_77 rfl ?_
              exact ih (j + 1) (upd F (n + j) (tl_no j)) _ _ ls (by omega) (by omega) (pm_puts (by omega) hF) (lv_sub hl [1, 2, 3, 4, 0] rfl) hP hD hS
        exact LP54 _ 0 T _ _ ls (Nat.lt_succ_self _) (by omega) (pm_let0 hT) (lv_sub hl [4, 3, 2, 1, 0] rfl) hP hD hS
      · skip
        have h37 := (not_congr (tl_eq (show x.toInt = x.toInt from rfl) (show (0 : Int32).toInt = (0 : Int) from Int32.toInt_zero))).mp h37
        exfalso; omega
    · skip
      have h20 := (tl_b1 w17).mp h20
      refine lv_bipush (v := (-3 : Int32)) hx hb dX1_letters_23 (by decide) ?_
      subst hQ
      exact W.iret (v := (-3 : Int32)) hx hb hr (fun t ht hW => ⟨⟨(-3 : Int32), ((n, T, k, G), E, d), rfl, (by rw [if_pos h1]; unfold sp_put; rw [if_neg (by omega)]; exact ⟨rfl, tE_mk hT hG hn hk⟩), by rw [ht]; exact hP, va_K.moved hW.alike hK, hD⟩, hS.F ht⟩) hS.2.2 dX1_letters_25
  · skip
    have h1 := (not_congr (tl_eq (show x.toInt = x.toInt from rfl) (show (0 : Int32).toInt = (0 : Int) from Int32.toInt_zero))).mp h1
    refine lv_iconst (v := nI 4) hx hb dX1_letters_4 (by decide) ?_
    refine lv_goto (tgt := 9) hx hb dX1_letters_5 rfl ?_
    refine lv_istore_n (lv' := [(2, .int (nI 4)), (0, .ref h0), (1, .int x)]) hx hb dX1_letters_9 rfl hl (by decide) rfl (fun ls hl => ?_)
    refine lv_aload_n hx hb dX1_letters_10 rfl (lv_at hl 1 rfl) ?_
    refine va_get (D := (dC, dI)) (ci := 1) (v := .int (nI n)) (C := RX1) (T := TX1) (N := 6) hx hb hts hinX1 hown hK hP 0 rfl rfl 3 (by decide) (hts _ (List.mem_cons_of_mem _ k248)) (fun _ h9 => h9) rfl dX1_letters_11 ?_
    refine lv_istore_n (lv' := [(3, .int (nI n)), (2, .int (nI 4)), (0, .ref h0), (1, .int x)]) hx hb dX1_letters_14 rfl hl (by decide) rfl (fun ls hl => ?_)
    refine lv_aload_n hx hb dX1_letters_15 rfl (lv_at hl 2 rfl) ?_
    refine lv_iload_n hx hb dX1_letters_16 rfl (lv_at hl 1 rfl) ?_
    have ea17_0 : (nI 4).toInt = (4 : Int) := (by decide)
    refine vp_callSi ((va_runV (As := [.int (nI 4)]) (rest := []) ⟨hx, hb, hml, hown, hts⟩ (c_M_full l dC dI h0 q0 q1 q2 n k cA cB cC T G T0 G0 hT hG (by omega) hk E d (nI 4) (by omega) (by omega)) (cwV 1 hts (gV_ (fun w h => List.mem_cons_of_mem _ h) k299 k301 k14 k22 k302) rfl rfl rfl (by decide +kernel) ⟨Nat.le_of_ble_eq_true rfl, Nat.le_of_ble_eq_true rfl⟩) ⟨fun a U g mk q => by obtain ⟨q0, qP, qK⟩ := q; exact ⟨q0, qP, va_K.moved (u := U) (U := U.calling g mk a) (Vm.Alike.refl U.vm) qK⟩, va_recv hK hP (ci := 1) (q0 := 0) rfl rfl, fun U hU hW => ⟨rfl, by rw [hU]; exact hP, va_K.moved hW.alike hK⟩⟩ rfl rfl hl.1 rfl (lv_room (Nat.le_of_ble_eq_true rfl)) dX1_letters_17 ⟨Nat.le_of_ble_eq_true rfl, Nat.le_of_ble_eq_true rfl⟩).run) (fun r17 w17 => ?_)
    try dsimp only at w17
    refine lv_if_eq (tgt := 26) hx hb dX1_letters_20 rfl (fun h20 => ?_) (fun h20 => ?_)
    · skip
      have h20 := (tl_b0 w17).mp h20
      refine lv_aload_n hx hb dX1_letters_26 rfl (lv_at hl 2 rfl) ?_
      refine lv_dup hx hb dX1_letters_27 rfl ?_
      refine va_get (D := (dC, dI)) (ci := 1) (v := .int (nI n)) (C := RX1) (T := TX1) (N := 6) hx hb hts hinX1 hown hK hP 0 rfl rfl 3 (by decide) (hts _ (List.mem_cons_of_mem _ k248)) (fun _ h9 => h9) rfl dX1_letters_28 ?_
      refine lv_iload_n hx hb dX1_letters_31 rfl (lv_at hl 1 rfl) ?_
      refine lv_iadd hx hb dX1_letters_32 ?_
      refine tl_top (nI_add _ _) ?_
      refine va_put (D := (dC, dI)) (ci := 1) (v := .int (nI (n + 4))) (ty := .int) (C := RX1) (T := TX1) (N := 6) hx hb hts hinX1 tyX1 tyX1_ok nmX1 hown hK hP hD hS 0 rfl rfl 3 (by decide) (hts _ (List.mem_cons_of_mem _ k248)) (fun _ h9 => h9) rfl (by decide +kernel) rfl rfl (Nat.le_of_ble_eq_true rfl) dX1_letters_33 (fun H locs hP hD hS => ?_)
      have hP : va_P (dC, dI) vwCl [(h0, .inr (1, [.ref q0, .ref q1, .ref q2, .int (nI (n + 4)), .int (nI k), .int d])), (q0, .inl (cA, 3000, .inl T)), (q1, .inl (cB, 40, .inl G)), (q2, .inl (cC, 20, .inl E))] H := hP
      have hD : va_D A [(h0, .inr (1, [.ref q0, .ref q1, .ref q2, .int (nI (n + 4)), .int (nI k), .int d])), (q0, .inl (cA, 3000, .inl T)), (q1, .inl (cB, 40, .inl G)), (q2, .inl (cC, 20, .inl E))] := hD
      refine lv_iload_n hx hb dX1_letters_36 rfl (lv_at hl 3 rfl) ?_
      refine lv_if_eq (tgt := 46) hx hb dX1_letters_37 rfl (fun h37 => ?_) (fun h37 => ?_)
      · skip
        have h37 := (tl_eq (show x.toInt = x.toInt from rfl) (show (0 : Int32).toInt = (0 : Int) from Int32.toInt_zero)).mp h37
        exfalso; omega
      · skip
        have h37 := (not_congr (tl_eq (show x.toInt = x.toInt from rfl) (show (0 : Int32).toInt = (0 : Int) from Int32.toInt_zero))).mp h37
        refine va_gets hx hb hM.1 hS hown (hts _ (List.mem_cons_of_mem _ k311)) (fun _ h9 => h9) dX1_letters_40 ?_
        refine lv_goto (tgt := 49) hx hb dX1_letters_43 rfl ?_
        refine lv_astore (lv' := [(4, .ref tY), (3, .int (nI n)), (2, .int (nI 4)), (0, .ref h0), (1, .int x)]) hx hb dX1_letters_49 hl (by decide) rfl (fun ls hl => ?_)
        refine lv_iconst (v := nI 0) hx hb dX1_letters_51 (by decide) ?_
        refine lv_istore (lv' := [(5, .int (nI 0)), (4, .ref tY), (3, .int (nI n)), (2, .int (nI 4)), (0, .ref h0), (1, .int x)]) hx hb dX1_letters_52 hl (by decide) rfl (fun ls hl => ?_)
        have LP54 : ∀ (fu : Nat) (j : Nat) (F : Nat → Int32) (H : Heap) (locs : List Loc) (ls : Array Slot), 4 - j < fu → j ≤ 4 → (∀ i, i < n + 4 → (i < n + j ∨ n + 4 ≤ i) → F i = tl_rep T0 n n tl_yes 4 i) → lv_has ls 6 [(0, .ref h0), (2, .int (nI 4)), (3, .int (nI n)), (4, .ref tY), (5, .int (nI j))] → va_P (dC, dI) vwCl [(h0, .inr (1, [.ref q0, .ref q1, .ref q2, .int (nI (n + 4)), .int (nI k), .int d])), (q0, .inl (cA, 3000, .inl F)), (q1, .inl (cB, 40, .inl G)), (q2, .inl (cC, 20, .inl E))] H → va_D A [(h0, .inr (1, [.ref q0, .ref q1, .ref q2, .int (nI (n + 4)), .int (nI k), .int d])), (q0, .inl (cA, 3000, .inl F)), (q1, .inl (cB, 40, .inl G)), (q2, .inl (cC, 20, .inl E))] → va_S A s.heap H locs → W p l e (headSpec wsX1_letters ({ frames := 1, cells := 0, slots := 0, locals := 21 } : Room)).room s m ([.ref h0, .int x] : List Value).toArray below meth c H locs 0 0 Q (F0 m 54 ls []) := by
          intro fu
          induction fu with
          | zero => intro j F H locs ls hfu; exact absurd hfu (Nat.not_lt_zero _)
          | succ fu ih =>
            intro j F H locs ls hfu hj hF hl hP hD hS
            refine lv_iload hx hb dX1_letters_54 (lv_at hl 4 rfl) ?_
            refine lv_iload_n hx hb dX1_letters_56 rfl (lv_at hl 1 rfl) ?_
            refine lv_icmp_ge (tgt := 80) hx hb dX1_letters_57 rfl (fun h57 => ?_) (fun h57 => ?_)
            · skip
              have h57 := (tl_le (show (nI 4).toInt = ((4 : Nat) : Int) from (nI_toInt (by omega))) (show (nI j).toInt = ((j : Nat) : Int) from (nI_toInt (by omega)))).mp h57
              refine lv_aload_n hx hb dX1_letters_80 rfl (lv_at hl 0 rfl) ?_
              refine va_get (D := (dC, dI)) (ci := 1) (v := .int (nI (n + 4))) (C := RX1) (T := TX1) (N := 6) hx hb hts hinX1 hown hK hP 0 rfl rfl 3 (by decide) (hts _ (List.mem_cons_of_mem _ k248)) (fun _ h9 => h9) rfl dX1_letters_81 ?_
              subst hQ
              exact W.iret (v := nI (n + 4)) hx hb hr (fun t ht hW => ⟨⟨nI (n + 4), ((n + 4, F, k, G), E, d), rfl, (by rw [if_neg h1]; unfold sp_put; rw [if_pos (by omega), Nat.sub_self, Nat.sub_zero]; exact ⟨rfl, tE_mk (fun i hi => hF i hi (by omega)) hG (by omega) hk⟩), by rw [ht]; exact hP, va_K.moved hW.alike hK, hD⟩, hS.F ht⟩) hS.2.2 dX1_letters_84
            · skip
              have h57 := (not_congr (tl_le (show (nI 4).toInt = ((4 : Nat) : Int) from (nI_toInt (by omega))) (show (nI j).toInt = ((j : Nat) : Int) from (nI_toInt (by omega))))).mp h57
              refine lv_aload_n hx hb dX1_letters_60 rfl (lv_at hl 0 rfl) ?_
              refine va_get (D := (dC, dI)) (ci := 1) (v := .ref q0) (C := RX1) (T := TX1) (N := 6) hx hb hts hinX1 hown hK hP 0 rfl rfl 0 (by decide) (hts _ (List.mem_cons_of_mem _ k245)) (fun _ h9 => h9) rfl dX1_letters_61 ?_
              refine lv_iload_n hx hb dX1_letters_64 rfl (lv_at hl 2 rfl) ?_
              refine lv_iload hx hb dX1_letters_65 (lv_at hl 4 rfl) ?_
              refine lv_iadd hx hb dX1_letters_67 ?_
              refine tl_top (nI_add _ _) ?_
              refine lv_aload hx hb dX1_letters_68 (lv_at hl 3 rfl) ?_
              refine lv_iload hx hb dX1_letters_70 (lv_at hl 4 rfl) ?_
              refine va_ti (v := .int (tl_yes j)) hx hb hM.2.1 hS (vp_in_nI (by omega) (by omega)) (by rw [nI_clamp (by omega)]) dX1_letters_72 ?_
              refine tl_iast hx hb hK hP hD hS 1 0 rfl rfl (by omega) (by decide) dX1_letters_73 (fun H locs hP hD hS => ?_)
              have hP : va_P (dC, dI) vwCl [(h0, .inr (1, [.ref q0, .ref q1, .ref q2, .int (nI (n + 4)), .int (nI k), .int d])), (q0, .inl (cA, 3000, .inl (upd F (n + j) (tl_yes j)))), (q1, .inl (cB, 40, .inl G)), (q2, .inl (cC, 20, .inl E))] H := hP
              have hD : va_D A [(h0, .inr (1, [.ref q0, .ref q1, .ref q2, .int (nI (n + 4)), .int (nI k), .int d])), (q0, .inl (cA, 3000, .inl (upd F (n + j) (tl_yes j)))), (q1, .inl (cB, 40, .inl G)), (q2, .inl (cC, 20, .inl E))] := hD
              refine lv_iinc (lv' := [(5, .int (nI (j + 1))), (0, .ref h0), (2, .int (nI 4)), (3, .int (nI n)), (4, .ref tY)]) (k := 4) (v := nI (j + 1)) hx hb dX1_letters_74 hl rfl (tl_inc1 _) (by decide) rfl (fun ls hl => ?_)
              refine lv_goto (tgt := 54) hx hb dX1_letters_77 rfl ?_
              exact ih (j + 1) (upd F (n + j) (tl_yes j)) _ _ ls (by omega) (by omega) (pm_puts (by omega) hF) (lv_sub hl [1, 2, 3, 4, 0] rfl) hP hD hS
        exact LP54 _ 0 T _ _ ls (Nat.lt_succ_self _) (by omega) (pm_let0 hT) (lv_sub hl [4, 3, 2, 1, 0] rfl) hP hD hS
    · skip
      have h20 := (tl_b1 w17).mp h20
      refine lv_bipush (v := (-3 : Int32)) hx hb dX1_letters_23 (by decide) ?_
      subst hQ
      exact W.iret (v := (-3 : Int32)) hx hb hr (fun t ht hW => ⟨⟨(-3 : Int32), ((n, T, k, G), E, d), rfl, (by rw [if_neg h1]; unfold sp_put; rw [if_neg (by omega)]; exact ⟨rfl, tE_mk hT hG hn hk⟩), by rw [ht]; exact hP, va_K.moved hW.alike hK, hD⟩, hS.F ht⟩) hS.2.2 dX1_letters_25
set_option maxHeartbeats 4000000 in
set_option maxRecDepth 100000 in
theorem c_M_add (l : Launch) (dC : Nat → ClassId) (dI : Nat → Nat → Nat) (h0 q0 q1 q2 sz n k : Nat) (cA cB cC : ClassId) (T G T0 G0 : Nat → Int32) (hT : ∀ j, j < n → T j = T0 j) (hG : ∀ j, j < k → G j = G0 j) (hn : n ≤ 3000) (hk : k ≤ 40) (E : Nat → Int32) (d : Int32) (x : Int32) (y : Int64) (tY tN : Nat) : Met l yX1_add wsX1_add ({ frames := 2, cells := 0, slots := 0, locals := 46 } : Room) (va_Pc [.ref h0, .int x, .long y] (fun U => U.heap.size = sz ∧ va_P (dC, dI) vwCl [(h0, .inr (1, [.ref q0, .ref q1, .ref q2, .int (nI n), .int (nI k), .int d])), (q0, .inl (cA, 3000, .inl T)), (q1, .inl (cB, 40, .inl G)), (q2, .inl (cC, 20, .inl E))] U.heap ∧ va_K (dC, dI) vwCl [(cA, .int), (cB, .int), (cC, .int)] U ∧ va_D (fun _ => True) [(h0, .inr (1, [.ref q0, .ref q1, .ref q2, .int (nI n), .int (nI k), .int d])), (q0, .inl (cA, 3000, .inl T)), (q1, .inl (cB, 40, .inl G)), (q2, .inl (cC, 20, .inl E))] ∧ mK tY tN (va_A [(h0, .inr (1, [.ref q0, .ref q1, .ref q2, .int (nI n), .int (nI k), .int d])), (q0, .inl (cA, 3000, .inl T)), (q1, .inl (cB, 40, .inl G)), (q2, .inl (cC, 20, .inl E))] sz) U U.heap)) (va_Qi (fun (r : Int32) (u : tM) => r = (sp_add x y n T0 k G0).1 ∧ tE u.1 (sp_add x y n T0 k G0).2) (at_M dC dI (va_A [(h0, .inr (1, [.ref q0, .ref q1, .ref q2, .int (nI n), .int (nI k), .int d])), (q0, .inl (cA, 3000, .inl T)), (q1, .inl (cB, 40, .inl G)), (q2, .inl (cC, 20, .inl E))] sz) h0 q0 q1 q2 cA cB cC) (va_A [(h0, .inr (1, [.ref q0, .ref q1, .ref q2, .int (nI n), .int (nI k), .int d])), (q0, .inl (cA, 3000, .inl T)), (q1, .inl (cB, 40, .inl G)), (q2, .inl (cC, 20, .inl E))] sz)) 0 0 (va_A [(h0, .inr (1, [.ref q0, .ref q1, .ref q2, .int (nI n), .int (nI k), .int d])), (q0, .inl (cA, 3000, .inl T)), (q1, .inl (cB, 40, .inl G)), (q2, .inl (cC, 20, .inl E))] sz) := by
  refine Met.ofW (cc := cX1_add) (maxL := 4) (ret := (some .int)) (by decide) rfl ?_
  intro p e s m args below meth c s₁ B hml hv
  obtain ⟨rfl, hsz, hP, hK, hD0, hM⟩ := hv
  have hx := B.exec
  have hb := B.bytes
  have hr := B.returns
  have hts := atoms_spec (ws := wsX1_add) B.pre
  have hown : s.vm.findClass RX1 = some m.cls := findClass_of_methodNamed B.named
  have hlocks := B.notSynchronized
  subst hsz
  have hD := hD0.self (sz := s.heap.size)
  generalize hAe : va_A [(h0, .inr (1, [.ref q0, .ref q1, .ref q2, .int (nI n), .int (nI k), .int d])), (q0, .inl (cA, 3000, .inl T)), (q1, .inl (cB, 40, .inl G)), (q2, .inl (cC, 20, .inl E))] s.heap.size = A at hD hM ⊢
  have hA : ∀ q : Nat, s.heap.size ≤ q → A q := fun q h => by rw [← hAe]; exact Or.inr h
  have hS : va_S A s.heap s.heap [] := va_S.rf
  have hP : va_P (dC, dI) vwCl [(h0, .inr (1, [.ref q0, .ref q1, .ref q2, .int (nI n), .int (nI k), .int d])), (q0, .inl (cA, 3000, .inl T)), (q1, .inl (cB, 40, .inl G)), (q2, .inl (cC, 20, .inl E))] s.heap := hP
  have hinX1 : ∀ w ∈ u_ws RX1 TX1 6, w ∈ wsX1_add := fun w h => List.mem_cons_of_mem _ (inX1 w h)
  have hl := lv_entry ([.ref h0, .int x, .long y]) (n := 4) (Nat.le_of_ble_eq_true rfl)
  rw [lg_entry_eq]
  generalize (lg_sl ([.ref h0, .int x, .long y]) ++ List.replicate (4 - (lg_sl ([.ref h0, .int x, .long y])).length) Slot.unset).toArray = ls at hl ⊢
  have hl : lv_has ls 4 [(0, .ref h0), (1, .int x), (2, .long y)] := hl
  refine tl_q (fun Q hQ => ?_)
  refine lv_iload_n hx hb dX1_add_0 rfl (lv_at hl 1 rfl) ?_
  have sw1 : x.toInt = x.toInt := rfl
  by_cases hs1_0 : x.toInt = 0
  · skip
    refine lv_tableIn (off := 31) (tgt := 32) hx hb dX1_add_1 (by omega) (by omega) (by rw [sw1, hs1_0]; first | done | rfl) rfl ?_
    refine lv_aload_n hx hb dX1_add_32 rfl (lv_at hl 0 rfl) ?_
    refine lv_lload_n hx hb dX1_add_33 rfl (lv_at hl 2 rfl) ?_
    have hPc := hP.sub (ws' := [(h0, .inr (1, [.ref q0, .ref q1, .ref q2, .int (nI n), .int (nI k), .int d])), (q0, .inl (cA, 3000, .inl T)), (q1, .inl (cB, 40, .inl G)), (q2, .inl (cC, 20, .inl E))]) [0, 1, 2, 3] rfl
    have hDc := hD.sub (ws' := [(h0, .inr (1, [.ref q0, .ref q1, .ref q2, .int (nI n), .int (nI k), .int d])), (q0, .inl (cA, 3000, .inl T)), (q1, .inl (cB, 40, .inl G)), (q2, .inl (cC, 20, .inl E))]) [0, 1, 2, 3] (by decide) rfl
    have hKc := hK
    have hFc := va_free (wc := [(h0, .inr (1, [.ref q0, .ref q1, .ref q2, .int (nI n), .int (nI k), .int d])), (q0, .inl (cA, 3000, .inl T)), (q1, .inl (cB, 40, .inl G)), (q2, .inl (cC, 20, .inl E))]) hD hS hA [0, 1, 2, 3] rfl
    refine va_callv (va_runV (As := [.long y]) (rest := []) ⟨hx, hb, hml, hown, hts⟩ (c_M_digits l dC dI h0 q0 q1 q2 s.heap.size n k cA cB cC T G T0 G0 hT hG (by omega) hk E d y) (cwV 1 hts (gV_ (fun w h => List.mem_cons_of_mem _ h) k290 k292 k12 k22 k293) rfl rfl rfl (by decide +kernel) ⟨Nat.le_of_ble_eq_true rfl, Nat.le_of_ble_eq_true rfl⟩) ⟨fun a U g mk q => by obtain ⟨q0, q1, qP, qK, qD⟩ := q; exact ⟨q0, q1, qP, va_K.moved (u := U) (U := U.calling g mk a) (Vm.Alike.refl U.vm) qK, qD⟩, va_recv hKc hPc (ci := 1) (q0 := 0) rfl rfl, fun U hU hW => ⟨rfl, by rw [hU], by rw [hU]; exact hPc, va_K.moved hW.alike hKc, hDc.weaken (fun _ _ _ _ => trivial)⟩⟩ rfl rfl hl.1 rfl (lv_room (Nat.le_of_ble_eq_true rfl)) dX1_add_34 ⟨Nat.le_of_ble_eq_true rfl, Nat.le_of_ble_eq_true rfl⟩) hS (fun q _ h => hFc q h) hFc (fun u34 t H locs ht hvm w34 hB hz1 hk1 hS => ?_)
    try dsimp only at w34
    obtain ⟨u1, E2, d2⟩ := u34
    obtain ⟨hu1, hu2, hE2⟩ := w34
    dsimp only at hu1 hu2 hE2
    subst hu1
    subst hu2
    have hm20 := dg_m_le y
    obtain ⟨hP1, hK1, hD1⟩ := hB
    rw [ht] at hP1
    obtain ⟨hP, hD⟩ := va_join (wr := []) (w1 := [(h0, .inr (1, [.ref q0, .ref q1, .ref q2, .int (nI n), .int (nI k), .int (nI (dg_m y))])), (q0, .inl (cA, 3000, .inl T)), (q1, .inl (cB, 40, .inl G)), (q2, .inl (cC, 20, .inl E2))]) hP hD [0, 1, 2, 3] [] rfl rfl (by decide) (by decide) hk1 hFc hP1 hD1
    have hP : va_P (dC, dI) vwCl [(h0, .inr (1, [.ref q0, .ref q1, .ref q2, .int (nI n), .int (nI k), .int (nI (dg_m y))])), (q0, .inl (cA, 3000, .inl T)), (q1, .inl (cB, 40, .inl G)), (q2, .inl (cC, 20, .inl E2))] H := hP
    have hD : va_D A [(h0, .inr (1, [.ref q0, .ref q1, .ref q2, .int (nI n), .int (nI k), .int (nI (dg_m y))])), (q0, .inl (cA, 3000, .inl T)), (q1, .inl (cB, 40, .inl G)), (q2, .inl (cC, 20, .inl E2))] := hD
    refine lv_aload_n hx hb dX1_add_37 rfl (lv_at hl 0 rfl) ?_
    refine lv_aload_n hx hb dX1_add_38 rfl (lv_at hl 0 rfl) ?_
    refine va_get (D := (dC, dI)) (ci := 1) (v := .int (nI n)) (C := RX1) (T := TX1) (N := 6) hx hb hts hinX1 hown hK hP 0 rfl rfl 3 (by decide) (hts _ (List.mem_cons_of_mem _ k248)) (fun _ h9 => h9) rfl dX1_add_39 ?_
    have hPc := hP.sub (ws' := [(h0, .inr (1, [.ref q0, .ref q1, .ref q2, .int (nI n), .int (nI k), .int (nI (dg_m y))])), (q0, .inl (cA, 3000, .inl T)), (q1, .inl (cB, 40, .inl G)), (q2, .inl (cC, 20, .inl E2))]) [0, 1, 2, 3] rfl
    have hDc := hD.sub (ws' := [(h0, .inr (1, [.ref q0, .ref q1, .ref q2, .int (nI n), .int (nI k), .int (nI (dg_m y))])), (q0, .inl (cA, 3000, .inl T)), (q1, .inl (cB, 40, .inl G)), (q2, .inl (cC, 20, .inl E2))]) [0, 1, 2, 3] (by decide) rfl
    have hKc := hK
    have hFc := va_free (wc := [(h0, .inr (1, [.ref q0, .ref q1, .ref q2, .int (nI n), .int (nI k), .int (nI (dg_m y))])), (q0, .inl (cA, 3000, .inl T)), (q1, .inl (cB, 40, .inl G)), (q2, .inl (cC, 20, .inl E2))]) hD hS hA [0, 1, 2, 3] rfl
    refine va_calli (va_runV (As := [.int (nI n)]) (rest := []) ⟨hx, hb, hml, hown, hts⟩ (c_M_putDigits l dC dI h0 q0 q1 q2 H.size n k cA cB cC T G T0 G0 hT hG (by omega) hk E2 (dg_m y) (dg_w y) (by omega) hE2 n (by omega)) (cwV 1 hts (gV_ (fun w h => List.mem_cons_of_mem _ h) k295 k297 k13 k22 k298) rfl rfl rfl (by decide +kernel) ⟨Nat.le_of_ble_eq_true rfl, Nat.le_of_ble_eq_true rfl⟩) ⟨fun a U g mk q => by obtain ⟨q0, q1, qP, qK, qD⟩ := q; exact ⟨q0, q1, qP, va_K.moved (u := U) (U := U.calling g mk a) (Vm.Alike.refl U.vm) qK, qD⟩, va_recv hKc hPc (ci := 1) (q0 := 0) rfl rfl, fun U hU hW => ⟨rfl, by rw [hU], by rw [hU]; exact hPc, va_K.moved hW.alike hKc, hDc.weaken (fun _ _ _ _ => trivial)⟩⟩ rfl rfl hl.1 rfl (lv_room (Nat.le_of_ble_eq_true rfl)) dX1_add_42 ⟨Nat.le_of_ble_eq_true rfl, Nat.le_of_ble_eq_true rfl⟩) hS (fun q _ h => hFc q h) hFc (fun r42 u42 t H locs ht hvm w42 hB hz1 hk1 hS => ?_)
    try dsimp only at w42
    obtain ⟨⟨n2, T2, k2, G2⟩, E3, d3⟩ := u42
    obtain ⟨hP1, hK1, hD1⟩ := hB
    rw [ht] at hP1
    obtain ⟨hP, hD⟩ := va_join (wr := []) (w1 := [(h0, .inr (1, [.ref q0, .ref q1, .ref q2, .int (nI n2), .int (nI k2), .int d3])), (q0, .inl (cA, 3000, .inl T2)), (q1, .inl (cB, 40, .inl G2)), (q2, .inl (cC, 20, .inl E3))]) hP hD [0, 1, 2, 3] [] rfl rfl (by decide) (by decide) hk1 hFc hP1 hD1
    have hP : va_P (dC, dI) vwCl [(h0, .inr (1, [.ref q0, .ref q1, .ref q2, .int (nI n2), .int (nI k2), .int d3])), (q0, .inl (cA, 3000, .inl T2)), (q1, .inl (cB, 40, .inl G2)), (q2, .inl (cC, 20, .inl E3))] H := hP
    have hD : va_D A [(h0, .inr (1, [.ref q0, .ref q1, .ref q2, .int (nI n2), .int (nI k2), .int d3])), (q0, .inl (cA, 3000, .inl T2)), (q1, .inl (cB, 40, .inl G2)), (q2, .inl (cC, 20, .inl E3))] := hD
    subst hQ
    exact W.iret (v := r42) hx hb hr (fun t ht hW => ⟨⟨r42, ((n2, T2, k2, G2), E3, d3), rfl, (by rw [(show sp_add x y n T0 k G0 = sp_put n n (dg_w y) (dg_m y) n T0 k G0 from (by unfold sp_add; (repeat' split) <;> first | rfl | (exfalso; omega)))]; exact w42), by rw [ht]; exact hP, va_K.moved hW.alike hK, hD⟩, hS.F ht⟩) hS.2.2 dX1_add_45
  by_cases hs1_1 : x.toInt = 1
  · skip
    refine lv_tableIn (off := 45) (tgt := 46) hx hb dX1_add_1 (by omega) (by omega) (by rw [sw1, hs1_1]; first | done | rfl) rfl ?_
    refine lv_aload_n hx hb dX1_add_46 rfl (lv_at hl 0 rfl) ?_
    refine lv_lload_n hx hb dX1_add_47 rfl (lv_at hl 2 rfl) ?_
    refine lv_lconst (v := (0 : Int64)) hx hb dX1_add_48 (by decide) ?_
    refine W.lcmp hx hb dX1_add_49 ?_
    refine lv_if_eq (tgt := 57) hx hb dX1_add_50 rfl (fun h50 => ?_) (fun h50 => ?_)
    · skip
      have h50 := (tl_leq (show y.toInt = y.toInt from rfl) (show ((0 : Int64)).toInt = (0 : Int) from (by decide))).mp h50
      refine lv_iconst (v := nI 0) hx hb dX1_add_57 (by decide) ?_
      have hPc := hP.sub (ws' := [(h0, .inr (1, [.ref q0, .ref q1, .ref q2, .int (nI n), .int (nI k), .int d])), (q0, .inl (cA, 3000, .inl T)), (q1, .inl (cB, 40, .inl G)), (q2, .inl (cC, 20, .inl E))]) [0, 1, 2, 3] rfl
      have hDc := hD.sub (ws' := [(h0, .inr (1, [.ref q0, .ref q1, .ref q2, .int (nI n), .int (nI k), .int d])), (q0, .inl (cA, 3000, .inl T)), (q1, .inl (cB, 40, .inl G)), (q2, .inl (cC, 20, .inl E))]) [0, 1, 2, 3] (by decide) rfl
      have hKc := hK
      have hFc := va_free (wc := [(h0, .inr (1, [.ref q0, .ref q1, .ref q2, .int (nI n), .int (nI k), .int d])), (q0, .inl (cA, 3000, .inl T)), (q1, .inl (cB, 40, .inl G)), (q2, .inl (cC, 20, .inl E))]) hD hS hA [0, 1, 2, 3] rfl
      refine va_calli (va_runV (As := [.int (nI 0)]) (rest := []) ⟨hx, hb, hml, hown, hts⟩ (c_M_letters l dC dI h0 q0 q1 q2 s.heap.size n k cA cB cC T G T0 G0 hT hG (by omega) hk E d (nI 0) tY tN) (cwV 1 hts (gV_ (fun w h => List.mem_cons_of_mem _ h) k307 k309 k16 k22 k310) rfl rfl rfl (by decide +kernel) ⟨Nat.le_of_ble_eq_true rfl, Nat.le_of_ble_eq_true rfl⟩) ⟨fun a U g mk q => by obtain ⟨q0, q1, qP, qK, qD, qM⟩ := q; exact ⟨q0, q1, qP, va_K.moved (u := U) (U := U.calling g mk a) (Vm.Alike.refl U.vm) qK, qD, mK_moved (u := U) (U := U.calling g mk a) (Vm.Alike.refl U.vm) qM⟩, va_recv hKc hPc (ci := 1) (q0 := 0) rfl rfl, fun U hU hW => ⟨rfl, by rw [hU], by rw [hU]; exact hPc, va_K.moved hW.alike hKc, hDc.weaken (fun _ _ _ _ => trivial), mK_at hM hS (fun q h => hFc q h) hW.alike hU⟩⟩ rfl rfl hl.1 rfl (lv_room (Nat.le_of_ble_eq_true rfl)) dX1_add_58 ⟨Nat.le_of_ble_eq_true rfl, Nat.le_of_ble_eq_true rfl⟩) hS (fun q _ h => hFc q h) hFc (fun r58 u58 t H locs ht hvm w58 hB hz1 hk1 hS => ?_)
      try dsimp only at w58
      obtain ⟨⟨n2, T2, k2, G2⟩, E3, d3⟩ := u58
      obtain ⟨hP1, hK1, hD1⟩ := hB
      rw [ht] at hP1
      obtain ⟨hP, hD⟩ := va_join (wr := []) (w1 := [(h0, .inr (1, [.ref q0, .ref q1, .ref q2, .int (nI n2), .int (nI k2), .int d3])), (q0, .inl (cA, 3000, .inl T2)), (q1, .inl (cB, 40, .inl G2)), (q2, .inl (cC, 20, .inl E3))]) hP hD [0, 1, 2, 3] [] rfl rfl (by decide) (by decide) hk1 hFc hP1 hD1
      have hP : va_P (dC, dI) vwCl [(h0, .inr (1, [.ref q0, .ref q1, .ref q2, .int (nI n2), .int (nI k2), .int d3])), (q0, .inl (cA, 3000, .inl T2)), (q1, .inl (cB, 40, .inl G2)), (q2, .inl (cC, 20, .inl E3))] H := hP
      have hD : va_D A [(h0, .inr (1, [.ref q0, .ref q1, .ref q2, .int (nI n2), .int (nI k2), .int d3])), (q0, .inl (cA, 3000, .inl T2)), (q1, .inl (cB, 40, .inl G2)), (q2, .inl (cC, 20, .inl E3))] := hD
      subst hQ
      exact W.iret (v := r58) hx hb hr (fun t ht hW => ⟨⟨r58, ((n2, T2, k2, G2), E3, d3), rfl, (by rw [(show sp_add x y n T0 k G0 = sp_put n n tl_no 5 n T0 k G0 from (by unfold sp_add; (repeat' split) <;> first | rfl | (exfalso; omega)))]; rw [if_pos (show (nI 0).toInt = 0 by decide)] at w58; exact w58), by rw [ht]; exact hP, va_K.moved hW.alike hK, hD⟩, hS.F ht⟩) hS.2.2 dX1_add_61
    · skip
      have h50 := (not_congr (tl_leq (show y.toInt = y.toInt from rfl) (show ((0 : Int64)).toInt = (0 : Int) from (by decide)))).mp h50
      refine lv_iconst (v := nI 1) hx hb dX1_add_53 (by decide) ?_
      refine lv_goto (tgt := 58) hx hb dX1_add_54 rfl ?_
      have hPc := hP.sub (ws' := [(h0, .inr (1, [.ref q0, .ref q1, .ref q2, .int (nI n), .int (nI k), .int d])), (q0, .inl (cA, 3000, .inl T)), (q1, .inl (cB, 40, .inl G)), (q2, .inl (cC, 20, .inl E))]) [0, 1, 2, 3] rfl
      have hDc := hD.sub (ws' := [(h0, .inr (1, [.ref q0, .ref q1, .ref q2, .int (nI n), .int (nI k), .int d])), (q0, .inl (cA, 3000, .inl T)), (q1, .inl (cB, 40, .inl G)), (q2, .inl (cC, 20, .inl E))]) [0, 1, 2, 3] (by decide) rfl
      have hKc := hK
      have hFc := va_free (wc := [(h0, .inr (1, [.ref q0, .ref q1, .ref q2, .int (nI n), .int (nI k), .int d])), (q0, .inl (cA, 3000, .inl T)), (q1, .inl (cB, 40, .inl G)), (q2, .inl (cC, 20, .inl E))]) hD hS hA [0, 1, 2, 3] rfl
      refine va_calli (va_runV (As := [.int (nI 1)]) (rest := []) ⟨hx, hb, hml, hown, hts⟩ (c_M_letters l dC dI h0 q0 q1 q2 s.heap.size n k cA cB cC T G T0 G0 hT hG (by omega) hk E d (nI 1) tY tN) (cwV 1 hts (gV_ (fun w h => List.mem_cons_of_mem _ h) k307 k309 k16 k22 k310) rfl rfl rfl (by decide +kernel) ⟨Nat.le_of_ble_eq_true rfl, Nat.le_of_ble_eq_true rfl⟩) ⟨fun a U g mk q => by obtain ⟨q0, q1, qP, qK, qD, qM⟩ := q; exact ⟨q0, q1, qP, va_K.moved (u := U) (U := U.calling g mk a) (Vm.Alike.refl U.vm) qK, qD, mK_moved (u := U) (U := U.calling g mk a) (Vm.Alike.refl U.vm) qM⟩, va_recv hKc hPc (ci := 1) (q0 := 0) rfl rfl, fun U hU hW => ⟨rfl, by rw [hU], by rw [hU]; exact hPc, va_K.moved hW.alike hKc, hDc.weaken (fun _ _ _ _ => trivial), mK_at hM hS (fun q h => hFc q h) hW.alike hU⟩⟩ rfl rfl hl.1 rfl (lv_room (Nat.le_of_ble_eq_true rfl)) dX1_add_58 ⟨Nat.le_of_ble_eq_true rfl, Nat.le_of_ble_eq_true rfl⟩) hS (fun q _ h => hFc q h) hFc (fun r58 u58 t H locs ht hvm w58 hB hz1 hk1 hS => ?_)
      try dsimp only at w58
      obtain ⟨⟨n2, T2, k2, G2⟩, E3, d3⟩ := u58
      obtain ⟨hP1, hK1, hD1⟩ := hB
      rw [ht] at hP1
      obtain ⟨hP, hD⟩ := va_join (wr := []) (w1 := [(h0, .inr (1, [.ref q0, .ref q1, .ref q2, .int (nI n2), .int (nI k2), .int d3])), (q0, .inl (cA, 3000, .inl T2)), (q1, .inl (cB, 40, .inl G2)), (q2, .inl (cC, 20, .inl E3))]) hP hD [0, 1, 2, 3] [] rfl rfl (by decide) (by decide) hk1 hFc hP1 hD1
      have hP : va_P (dC, dI) vwCl [(h0, .inr (1, [.ref q0, .ref q1, .ref q2, .int (nI n2), .int (nI k2), .int d3])), (q0, .inl (cA, 3000, .inl T2)), (q1, .inl (cB, 40, .inl G2)), (q2, .inl (cC, 20, .inl E3))] H := hP
      have hD : va_D A [(h0, .inr (1, [.ref q0, .ref q1, .ref q2, .int (nI n2), .int (nI k2), .int d3])), (q0, .inl (cA, 3000, .inl T2)), (q1, .inl (cB, 40, .inl G2)), (q2, .inl (cC, 20, .inl E3))] := hD
      subst hQ
      exact W.iret (v := r58) hx hb hr (fun t ht hW => ⟨⟨r58, ((n2, T2, k2, G2), E3, d3), rfl, (by rw [(show sp_add x y n T0 k G0 = sp_put n n tl_yes 4 n T0 k G0 from (by unfold sp_add; (repeat' split) <;> first | rfl | (exfalso; omega)))]; rw [if_neg (show ¬ (nI 1).toInt = 0 by decide)] at w58; exact w58), by rw [ht]; exact hP, va_K.moved hW.alike hK, hD⟩, hS.F ht⟩) hS.2.2 dX1_add_61
  by_cases hs1_2 : x.toInt = 2
  · skip
    refine lv_tableIn (off := 61) (tgt := 62) hx hb dX1_add_1 (by omega) (by omega) (by rw [sw1, hs1_2]; first | done | rfl) rfl ?_
    refine lv_aload_n hx hb dX1_add_62 rfl (lv_at hl 0 rfl) ?_
    refine lv_aload_n hx hb dX1_add_63 rfl (lv_at hl 0 rfl) ?_
    refine va_get (D := (dC, dI)) (ci := 1) (v := .int (nI n)) (C := RX1) (T := TX1) (N := 6) hx hb hts hinX1 hown hK hP 0 rfl rfl 3 (by decide) (hts _ (List.mem_cons_of_mem _ k248)) (fun _ h9 => h9) rfl dX1_add_64 ?_
    have hPc := hP.sub (ws' := [(h0, .inr (1, [.ref q0, .ref q1, .ref q2, .int (nI n), .int (nI k), .int d])), (q0, .inl (cA, 3000, .inl T)), (q1, .inl (cB, 40, .inl G)), (q2, .inl (cC, 20, .inl E))]) [0, 1, 2, 3] rfl
    have hDc := hD.sub (ws' := [(h0, .inr (1, [.ref q0, .ref q1, .ref q2, .int (nI n), .int (nI k), .int d])), (q0, .inl (cA, 3000, .inl T)), (q1, .inl (cB, 40, .inl G)), (q2, .inl (cC, 20, .inl E))]) [0, 1, 2, 3] (by decide) rfl
    have hKc := hK
    have hFc := va_free (wc := [(h0, .inr (1, [.ref q0, .ref q1, .ref q2, .int (nI n), .int (nI k), .int d])), (q0, .inl (cA, 3000, .inl T)), (q1, .inl (cB, 40, .inl G)), (q2, .inl (cC, 20, .inl E))]) hD hS hA [0, 1, 2, 3] rfl
    refine va_calli (va_runV (As := [.int (nI n)]) (rest := []) ⟨hx, hb, hml, hown, hts⟩ (c_M_putScrap l dC dI h0 q0 q1 q2 s.heap.size n k cA cB cC T G T0 G0 hT hG (by omega) hk E d n (by omega)) (cwV 1 hts (gV_ (fun w h => List.mem_cons_of_mem _ h) k315 k317 k17 k22 k318) rfl rfl rfl (by decide +kernel) ⟨Nat.le_of_ble_eq_true rfl, Nat.le_of_ble_eq_true rfl⟩) ⟨fun a U g mk q => by obtain ⟨q0, q1, qP, qK, qD⟩ := q; exact ⟨q0, q1, qP, va_K.moved (u := U) (U := U.calling g mk a) (Vm.Alike.refl U.vm) qK, qD⟩, va_recv hKc hPc (ci := 1) (q0 := 0) rfl rfl, fun U hU hW => ⟨rfl, by rw [hU], by rw [hU]; exact hPc, va_K.moved hW.alike hKc, hDc.weaken (fun _ _ _ _ => trivial)⟩⟩ rfl rfl hl.1 rfl (lv_room (Nat.le_of_ble_eq_true rfl)) dX1_add_67 ⟨Nat.le_of_ble_eq_true rfl, Nat.le_of_ble_eq_true rfl⟩) hS (fun q _ h => hFc q h) hFc (fun r67 u67 t H locs ht hvm w67 hB hz1 hk1 hS => ?_)
    try dsimp only at w67
    obtain ⟨⟨n2, T2, k2, G2⟩, E3, d3⟩ := u67
    obtain ⟨hP1, hK1, hD1⟩ := hB
    rw [ht] at hP1
    obtain ⟨hP, hD⟩ := va_join (wr := []) (w1 := [(h0, .inr (1, [.ref q0, .ref q1, .ref q2, .int (nI n2), .int (nI k2), .int d3])), (q0, .inl (cA, 3000, .inl T2)), (q1, .inl (cB, 40, .inl G2)), (q2, .inl (cC, 20, .inl E3))]) hP hD [0, 1, 2, 3] [] rfl rfl (by decide) (by decide) hk1 hFc hP1 hD1
    have hP : va_P (dC, dI) vwCl [(h0, .inr (1, [.ref q0, .ref q1, .ref q2, .int (nI n2), .int (nI k2), .int d3])), (q0, .inl (cA, 3000, .inl T2)), (q1, .inl (cB, 40, .inl G2)), (q2, .inl (cC, 20, .inl E3))] H := hP
    have hD : va_D A [(h0, .inr (1, [.ref q0, .ref q1, .ref q2, .int (nI n2), .int (nI k2), .int d3])), (q0, .inl (cA, 3000, .inl T2)), (q1, .inl (cB, 40, .inl G2)), (q2, .inl (cC, 20, .inl E3))] := hD
    subst hQ
    exact W.iret (v := r67) hx hb hr (fun t ht hW => ⟨⟨r67, ((n2, T2, k2, G2), E3, d3), rfl, (by rw [(show sp_add x y n T0 k G0 = sp_put n n G0 k n T0 k G0 from (by unfold sp_add; (repeat' split) <;> first | rfl | (exfalso; omega)))]; exact w67), by rw [ht]; exact hP, va_K.moved hW.alike hK, hD⟩, hS.F ht⟩) hS.2.2 dX1_add_70
  by_cases hs1_3 : x.toInt = 3
  · skip
    refine lv_tableIn (off := 70) (tgt := 71) hx hb dX1_add_1 (by omega) (by omega) (by rw [sw1, hs1_3]; first | done | rfl) rfl ?_
    refine lv_lload_n hx hb dX1_add_71 rfl (lv_at hl 2 rfl) ?_
    refine vp_callSi ((va_runS (As := [.long y]) (rest := []) ⟨hx, hb, hml, hown, hts⟩ (c_M_isSign l y) (va_cwS 1 hts (gS_ (fun w h => List.mem_cons_of_mem _ h) k268 k269 k22 k270) rfl rfl rfl (by decide +kernel) ⟨Nat.le_of_ble_eq_true rfl, Nat.le_of_ble_eq_true rfl⟩) ⟨fun a U g mk q => q, fun U hU hW => ⟨rfl, trivial⟩⟩ rfl rfl hl.1 rfl (lv_room (Nat.le_of_ble_eq_true rfl)) dX1_add_72 ⟨Nat.le_of_ble_eq_true rfl, Nat.le_of_ble_eq_true rfl⟩).run) (fun r72 w72 => ?_)
    try dsimp only at w72
    refine lv_if_ne (tgt := 80) hx hb dX1_add_75 rfl (fun h75 => ?_) (fun h75 => ?_)
    · skip
      have h75 := (tl_b1 w72).mp h75
      refine lv_aload_n hx hb dX1_add_80 rfl (lv_at hl 0 rfl) ?_
      refine lv_iconst (v := nI 1) hx hb dX1_add_81 (by decide) ?_
      have ea82_0 : (nI 1).toInt = (1 : Int) := (by decide)
      refine vp_callSi ((va_runV (As := [.int (nI 1)]) (rest := []) ⟨hx, hb, hml, hown, hts⟩ (c_M_full l dC dI h0 q0 q1 q2 n k cA cB cC T G T0 G0 hT hG (by omega) hk E d (nI 1) (by omega) (by omega)) (cwV 1 hts (gV_ (fun w h => List.mem_cons_of_mem _ h) k299 k301 k14 k22 k302) rfl rfl rfl (by decide +kernel) ⟨Nat.le_of_ble_eq_true rfl, Nat.le_of_ble_eq_true rfl⟩) ⟨fun a U g mk q => by obtain ⟨q0, qP, qK⟩ := q; exact ⟨q0, qP, va_K.moved (u := U) (U := U.calling g mk a) (Vm.Alike.refl U.vm) qK⟩, va_recv hK hP (ci := 1) (q0 := 0) rfl rfl, fun U hU hW => ⟨rfl, by rw [hU]; exact hP, va_K.moved hW.alike hK⟩⟩ rfl rfl hl.1 rfl (lv_room (Nat.le_of_ble_eq_true rfl)) dX1_add_82 ⟨Nat.le_of_ble_eq_true rfl, Nat.le_of_ble_eq_true rfl⟩).run) (fun r82 w82 => ?_)
      try dsimp only at w82
      refine lv_if_eq (tgt := 91) hx hb dX1_add_85 rfl (fun h85 => ?_) (fun h85 => ?_)
      · skip
        have h85 := (tl_b0 w82).mp h85
        refine lv_aload_n hx hb dX1_add_91 rfl (lv_at hl 0 rfl) ?_
        refine va_get (D := (dC, dI)) (ci := 1) (v := .ref q0) (C := RX1) (T := TX1) (N := 6) hx hb hts hinX1 hown hK hP 0 rfl rfl 0 (by decide) (hts _ (List.mem_cons_of_mem _ k245)) (fun _ h9 => h9) rfl dX1_add_92 ?_
        refine lv_aload_n hx hb dX1_add_95 rfl (lv_at hl 0 rfl) ?_
        refine va_get (D := (dC, dI)) (ci := 1) (v := .int (nI n)) (C := RX1) (T := TX1) (N := 6) hx hb hts hinX1 hown hK hP 0 rfl rfl 3 (by decide) (hts _ (List.mem_cons_of_mem _ k248)) (fun _ h9 => h9) rfl dX1_add_96 ?_
        refine lv_lload_n hx hb dX1_add_99 rfl (lv_at hl 2 rfl) ?_
        refine lv_l2i hx hb dX1_add_100 rfl ?_
        refine tl_iast hx hb hK hP hD hS 1 0 rfl rfl (by omega) (by decide) dX1_add_101 (fun H locs hP hD hS => ?_)
        have hP : va_P (dC, dI) vwCl [(h0, .inr (1, [.ref q0, .ref q1, .ref q2, .int (nI n), .int (nI k), .int d])), (q0, .inl (cA, 3000, .inl (upd T n y.toInt32))), (q1, .inl (cB, 40, .inl G)), (q2, .inl (cC, 20, .inl E))] H := hP
        have hD : va_D A [(h0, .inr (1, [.ref q0, .ref q1, .ref q2, .int (nI n), .int (nI k), .int d])), (q0, .inl (cA, 3000, .inl (upd T n y.toInt32))), (q1, .inl (cB, 40, .inl G)), (q2, .inl (cC, 20, .inl E))] := hD
        refine lv_aload_n hx hb dX1_add_102 rfl (lv_at hl 0 rfl) ?_
        refine lv_dup hx hb dX1_add_103 rfl ?_
        refine va_get (D := (dC, dI)) (ci := 1) (v := .int (nI n)) (C := RX1) (T := TX1) (N := 6) hx hb hts hinX1 hown hK hP 0 rfl rfl 3 (by decide) (hts _ (List.mem_cons_of_mem _ k248)) (fun _ h9 => h9) rfl dX1_add_104 ?_
        refine lv_iconst (v := nI 1) hx hb dX1_add_107 (by decide) ?_
        refine lv_iadd hx hb dX1_add_108 ?_
        refine tl_top (nI_add _ _) ?_
        refine lv_dup_x1 hx hb dX1_add_109 rfl rfl ?_
        refine va_put (D := (dC, dI)) (ci := 1) (v := .int (nI (n + 1))) (ty := .int) (C := RX1) (T := TX1) (N := 6) hx hb hts hinX1 tyX1 tyX1_ok nmX1 hown hK hP hD hS 0 rfl rfl 3 (by decide) (hts _ (List.mem_cons_of_mem _ k248)) (fun _ h9 => h9) rfl (by decide +kernel) rfl rfl (Nat.le_of_ble_eq_true rfl) dX1_add_110 (fun H locs hP hD hS => ?_)
        have hP : va_P (dC, dI) vwCl [(h0, .inr (1, [.ref q0, .ref q1, .ref q2, .int (nI (n + 1)), .int (nI k), .int d])), (q0, .inl (cA, 3000, .inl (upd T n y.toInt32))), (q1, .inl (cB, 40, .inl G)), (q2, .inl (cC, 20, .inl E))] H := hP
        have hD : va_D A [(h0, .inr (1, [.ref q0, .ref q1, .ref q2, .int (nI (n + 1)), .int (nI k), .int d])), (q0, .inl (cA, 3000, .inl (upd T n y.toInt32))), (q1, .inl (cB, 40, .inl G)), (q2, .inl (cC, 20, .inl E))] := hD
        subst hQ
        exact W.iret (v := nI (n + 1)) hx hb hr (fun t ht hW => ⟨⟨nI (n + 1), ((n + 1, upd T n y.toInt32, k, G), E, d), rfl, (by rw [(show sp_add x y n T0 k G0 = sp_put n n (fun _ => y.toInt32) 1 n T0 k G0 from (by unfold sp_add; (repeat' split) <;> first | rfl | (exfalso; omega)))]; unfold sp_put; rw [if_pos (by omega), Nat.sub_self, Nat.sub_zero]; exact ⟨rfl, tE_mk (pm_sign hT) hG (by omega) hk⟩), by rw [ht]; exact hP, va_K.moved hW.alike hK, hD⟩, hS.F ht⟩) hS.2.2 dX1_add_113
      · skip
        have h85 := (tl_b1 w82).mp h85
        refine lv_bipush (v := (-3 : Int32)) hx hb dX1_add_88 (by decide) ?_
        subst hQ
        exact W.iret (v := (-3 : Int32)) hx hb hr (fun t ht hW => ⟨⟨(-3 : Int32), ((n, T, k, G), E, d), rfl, (by rw [(show sp_add x y n T0 k G0 = sp_put n n (fun _ => y.toInt32) 1 n T0 k G0 from (by unfold sp_add; (repeat' split) <;> first | rfl | (exfalso; omega)))]; unfold sp_put; rw [if_neg (by omega)]; exact ⟨rfl, tE_mk hT hG hn hk⟩), by rw [ht]; exact hP, va_K.moved hW.alike hK, hD⟩, hS.F ht⟩) hS.2.2 dX1_add_90
    · skip
      have h75 := (tl_b0 w72).mp h75
      refine lv_iconst (v := (-1 : Int32)) hx hb dX1_add_78 (by decide) ?_
      subst hQ
      exact W.iret (v := (-1 : Int32)) hx hb hr (fun t ht hW => ⟨⟨(-1 : Int32), ((n, T, k, G), E, d), rfl, (by rw [(show sp_add x y n T0 k G0 = ((-1 : Int32), (n, T0, k, G0)) from (by unfold sp_add; (repeat' split) <;> first | rfl | (exfalso; omega)))]; exact ⟨rfl, tE_mk hT hG hn hk⟩), by rw [ht]; exact hP, va_K.moved hW.alike hK, hD⟩, hS.F ht⟩) hS.2.2 dX1_add_79
  refine lv_tableOut (tgt := 114) hx hb dX1_add_1 (by omega) rfl ?_
  refine lv_iconst (v := (-1 : Int32)) hx hb dX1_add_114 (by decide) ?_
  subst hQ
  exact W.iret (v := (-1 : Int32)) hx hb hr (fun t ht hW => ⟨⟨(-1 : Int32), ((n, T, k, G), E, d), rfl, (by rw [(show sp_add x y n T0 k G0 = ((-1 : Int32), (n, T0, k, G0)) from (by unfold sp_add; (repeat' split) <;> first | rfl | (exfalso; omega)))]; exact ⟨rfl, tE_mk hT hG hn hk⟩), by rw [ht]; exact hP, va_K.moved hW.alike hK, hD⟩, hS.F ht⟩) hS.2.2 dX1_add_115
set_option maxHeartbeats 4000000 in
set_option maxRecDepth 100000 in
theorem c_M_init (l : Launch) (dC : Nat → ClassId) (dI : Nat → Nat → Nat) (h0 sz : Nat) : Met l yX1_init wsX1_init ({ frames := 1, cells := 3, slots := 3060, locals := 12 } : Room) (va_Pc [.ref h0] (fun U => U.heap.size = sz ∧ va_P (dC, dI) vwCl [(h0, .inr (1, [.null, .null, .null, .int 0, .int 0, .int 0]))] U.heap ∧ va_K (dC, dI) vwCl [] U ∧ va_D (fun _ => True) [(h0, .inr (1, [.null, .null, .null, .int 0, .int 0, .int 0]))])) (va_Qv (fun (u : tM) => u = ((0, (fun _ => 0), 0, (fun _ => 0)), (fun _ => 0), 0)) (fun u t => ∃ (q0 q1 q2 : Nat) (cA cB cC : ClassId), at_M dC dI (va_A [(h0, .inr (1, [.null, .null, .null, .int 0, .int 0, .int 0]))] sz) h0 q0 q1 q2 cA cB cC u t) (va_A [(h0, .inr (1, [.null, .null, .null, .int 0, .int 0, .int 0]))] sz)) 3 3060 (va_A [(h0, .inr (1, [.null, .null, .null, .int 0, .int 0, .int 0]))] sz) := by
  refine Met.ofW (cc := cX1_init) (maxL := 1) (ret := none) (by decide) rfl ?_
  intro p e s m args below meth c s₁ B hml hv
  obtain ⟨rfl, hsz, hP, hK, hD0⟩ := hv
  have hx := B.exec
  have hb := B.bytes
  have hr := B.returns
  have hts := atoms_spec (ws := wsX1_init) B.pre
  have hown : s.vm.findClass RX1 = some m.cls := findClass_of_methodNamed B.named
  have hlocks := B.notSynchronized
  have hin : meth.name = "<init>" := (name_of_methodNamed B.named B.method).1
  subst hsz
  have hD := hD0.self (sz := s.heap.size)
  generalize hAe : va_A [(h0, .inr (1, [.null, .null, .null, .int 0, .int 0, .int 0]))] s.heap.size = A at hD ⊢
  have hA : ∀ q : Nat, s.heap.size ≤ q → A q := fun q h => by rw [← hAe]; exact Or.inr h
  have hS : va_S A s.heap s.heap [] := va_S.rf
  have hP : va_P (dC, dI) vwCl [(h0, .inr (1, [.null, .null, .null, .int 0, .int 0, .int 0]))] s.heap := hP
  have hinX1 : ∀ w ∈ u_ws RX1 TX1 6, w ∈ wsX1_init := fun w h => List.mem_cons_of_mem _ (inX1 w h)
  have hl := lv_entry ([.ref h0]) (n := 1) (Nat.le_of_ble_eq_true rfl)
  rw [lg_entry_eq]
  generalize (lg_sl ([.ref h0]) ++ List.replicate (1 - (lg_sl ([.ref h0])).length) Slot.unset).toArray = ls at hl ⊢
  have hl : lv_has ls 1 [(0, .ref h0)] := hl
  refine tl_q (fun Q hQ => ?_)
  refine lv_aload_n hx hb dX1_init_0 rfl (lv_at hl 0 rfl) ?_
  refine W.objInit hx hb hown (hts _ (List.mem_cons_of_mem _ k244)) (hts _ (List.mem_cons_of_mem _ k35)) (hts _ (List.mem_cons_of_mem _ k36)) rfl (by rw [hml]; exact hl.1) rfl dX1_init_1 (Nat.le_of_ble_eq_true rfl) (Nat.le_of_ble_eq_true rfl) ?_
  refine W.eq (g2 := F0 m 4 ls []) rfl ?_
  refine lv_aload_n hx hb dX1_init_4 rfl (lv_at hl 0 rfl) ?_
  refine lv_sipush (v := nI 3000) hx hb dX1_init_5 (by decide) ?_
  refine va_newa (atype := .int) (N' := 3000) (a0 := (3000, .inl (fun _ => 0))) (ty := .int) (n := nI 3000) hx hb (hts _ (List.mem_cons_of_mem _ k50)) rfl hK hP hD hS hA (fun _ => rfl) (by decide) (by decide) (by decide) (Nat.le_of_ble_eq_true rfl) (Nat.le_of_ble_eq_true rfl) dX1_init_8 (fun q0 cA H hK hP hD hS => ?_)
  have hP : va_P (dC, dI) vwCl [(h0, .inr (1, [.null, .null, .null, .int 0, .int 0, .int 0])), (q0, .inl (cA, 3000, .inl ((fun _ => 0))))] H := hP
  have hD : va_D A [(h0, .inr (1, [.null, .null, .null, .int 0, .int 0, .int 0])), (q0, .inl (cA, 3000, .inl ((fun _ => 0))))] := hD
  have hK : va_K (dC, dI) vwCl [(cA, .int)] s := hK
  refine W.widen (k := 1) (n := 3000) (by omega) (by omega) ?_
  refine va_putF (D := (dC, dI)) (ci := 1) (v := .ref q0) (ty := (.array .int)) (C := RX1) (T := TX1) (N := 6) hx hb hts hinX1 tyX1 tyX1_ok nmX1 hown hK hP hD hS 0 rfl rfl 0 (by decide) (hts _ (List.mem_cons_of_mem _ k245)) (fun _ h9 => h9) rfl hin rfl (by decide +kernel) rfl rfl (Nat.le_of_ble_eq_true rfl) dX1_init_10 (fun H locs hP hD hS => ?_)
  have hP : va_P (dC, dI) vwCl [(h0, .inr (1, [.ref q0, .null, .null, .int 0, .int 0, .int 0])), (q0, .inl (cA, 3000, .inl ((fun _ => 0))))] H := hP
  have hD : va_D A [(h0, .inr (1, [.ref q0, .null, .null, .int 0, .int 0, .int 0])), (q0, .inl (cA, 3000, .inl ((fun _ => 0))))] := hD
  refine lv_aload_n hx hb dX1_init_13 rfl (lv_at hl 0 rfl) ?_
  refine lv_bipush (v := nI 40) hx hb dX1_init_14 (by decide) ?_
  refine va_newa (atype := .int) (N' := 40) (a0 := (40, .inl (fun _ => 0))) (ty := .int) (n := nI 40) hx hb (hts _ (List.mem_cons_of_mem _ k50)) rfl hK hP hD hS hA (fun _ => rfl) (by decide) (by decide) (by decide) (Nat.le_of_ble_eq_true rfl) (Nat.le_of_ble_eq_true rfl) dX1_init_16 (fun q1 cB H hK hP hD hS => ?_)
  have hP : va_P (dC, dI) vwCl [(h0, .inr (1, [.ref q0, .null, .null, .int 0, .int 0, .int 0])), (q0, .inl (cA, 3000, .inl ((fun _ => 0)))), (q1, .inl (cB, 40, .inl ((fun _ => 0))))] H := hP
  have hD : va_D A [(h0, .inr (1, [.ref q0, .null, .null, .int 0, .int 0, .int 0])), (q0, .inl (cA, 3000, .inl ((fun _ => 0)))), (q1, .inl (cB, 40, .inl ((fun _ => 0))))] := hD
  have hK : va_K (dC, dI) vwCl [(cA, .int), (cB, .int)] s := hK
  refine W.widen (k := 2) (n := 3040) (by omega) (by omega) ?_
  refine va_putF (D := (dC, dI)) (ci := 1) (v := .ref q1) (ty := (.array .int)) (C := RX1) (T := TX1) (N := 6) hx hb hts hinX1 tyX1 tyX1_ok nmX1 hown hK hP hD hS 0 rfl rfl 1 (by decide) (hts _ (List.mem_cons_of_mem _ k246)) (fun _ h9 => h9) rfl hin rfl (by decide +kernel) rfl rfl (Nat.le_of_ble_eq_true rfl) dX1_init_18 (fun H locs hP hD hS => ?_)
  have hP : va_P (dC, dI) vwCl [(h0, .inr (1, [.ref q0, .ref q1, .null, .int 0, .int 0, .int 0])), (q0, .inl (cA, 3000, .inl ((fun _ => 0)))), (q1, .inl (cB, 40, .inl ((fun _ => 0))))] H := hP
  have hD : va_D A [(h0, .inr (1, [.ref q0, .ref q1, .null, .int 0, .int 0, .int 0])), (q0, .inl (cA, 3000, .inl ((fun _ => 0)))), (q1, .inl (cB, 40, .inl ((fun _ => 0))))] := hD
  refine lv_aload_n hx hb dX1_init_21 rfl (lv_at hl 0 rfl) ?_
  refine lv_bipush (v := nI 20) hx hb dX1_init_22 (by decide) ?_
  refine va_newa (atype := .int) (N' := 20) (a0 := (20, .inl (fun _ => 0))) (ty := .int) (n := nI 20) hx hb (hts _ (List.mem_cons_of_mem _ k50)) rfl hK hP hD hS hA (fun _ => rfl) (by decide) (by decide) (by decide) (Nat.le_of_ble_eq_true rfl) (Nat.le_of_ble_eq_true rfl) dX1_init_24 (fun q2 cC H hK hP hD hS => ?_)
  have hP : va_P (dC, dI) vwCl [(h0, .inr (1, [.ref q0, .ref q1, .null, .int 0, .int 0, .int 0])), (q0, .inl (cA, 3000, .inl ((fun _ => 0)))), (q1, .inl (cB, 40, .inl ((fun _ => 0)))), (q2, .inl (cC, 20, .inl ((fun _ => 0))))] H := hP
  have hD : va_D A [(h0, .inr (1, [.ref q0, .ref q1, .null, .int 0, .int 0, .int 0])), (q0, .inl (cA, 3000, .inl ((fun _ => 0)))), (q1, .inl (cB, 40, .inl ((fun _ => 0)))), (q2, .inl (cC, 20, .inl ((fun _ => 0))))] := hD
  have hK : va_K (dC, dI) vwCl [(cA, .int), (cB, .int), (cC, .int)] s := hK
  refine W.widen (k := 3) (n := 3060) (by omega) (by omega) ?_
  refine va_putF (D := (dC, dI)) (ci := 1) (v := .ref q2) (ty := (.array .int)) (C := RX1) (T := TX1) (N := 6) hx hb hts hinX1 tyX1 tyX1_ok nmX1 hown hK hP hD hS 0 rfl rfl 2 (by decide) (hts _ (List.mem_cons_of_mem _ k247)) (fun _ h9 => h9) rfl hin rfl (by decide +kernel) rfl rfl (Nat.le_of_ble_eq_true rfl) dX1_init_26 (fun H locs hP hD hS => ?_)
  have hP : va_P (dC, dI) vwCl [(h0, .inr (1, [.ref q0, .ref q1, .ref q2, .int 0, .int 0, .int 0])), (q0, .inl (cA, 3000, .inl ((fun _ => 0)))), (q1, .inl (cB, 40, .inl ((fun _ => 0)))), (q2, .inl (cC, 20, .inl ((fun _ => 0))))] H := hP
  have hD : va_D A [(h0, .inr (1, [.ref q0, .ref q1, .ref q2, .int 0, .int 0, .int 0])), (q0, .inl (cA, 3000, .inl ((fun _ => 0)))), (q1, .inl (cB, 40, .inl ((fun _ => 0)))), (q2, .inl (cC, 20, .inl ((fun _ => 0))))] := hD
  subst hQ
  exact W.vret hx hb hr (fun t ht hW => ⟨⟨((0, (fun _ => 0), 0, (fun _ => 0)), (fun _ => 0), 0), rfl, rfl, q0, q1, q2, cA, cB, cC, by rw [ht]; exact hP, va_K.moved hW.alike hK, hD⟩, hS.F ht⟩) hS.2.2 dX1_init_29
end
