/-! names and decode rows of the class and of the JDK: printed by the claim; of the reference: by names.py -/
def RX0 : String := "TextLoom"
def TX0 : u_T := fun k => match k with
  | 0 => ("TextLoom", "textSigns", "[I", true)
  | 1 => ("TextLoom", "scrapSigns", "[I", true)
  | 2 => ("TextLoom", "textCount", "I", false)
  | _ => ("TextLoom", "scrapCount", "I", false)
def tyX0 : Nat → FieldType := fun k => match k with
  | 0 => .array .int
  | 1 => .array .int
  | 2 => .int
  | _ => .int
theorem nmX0 : ∀ a, a < 4 → ∀ b, b < 4 → a ≠ b → (TX0 a).2.1 ≠ (TX0 b).2.1 := by decide +kernel
theorem tyX0_ok : ∀ k, k < 4 → parseFieldDescriptor (TX0 k).2.2.1 = some (tyX0 k) := by decide +kernel
abbrev cX0_init : ByteArray := prog_1_method_1_code
def yX0_init : MethodName := ⟨RX0, "<init>", "()V"⟩
abbrev cX0_note : ByteArray := prog_1_method_2_code
def yX0_note : MethodName := ⟨RX0, "note", "(I)I"⟩
abbrev cX0_drop : ByteArray := prog_1_method_3_code
def yX0_drop : MethodName := ⟨RX0, "drop", "()I"⟩
abbrev cX0_add : ByteArray := prog_1_method_4_code
def yX0_add : MethodName := ⟨RX0, "add", "(IJ)I"⟩
abbrev cX0_insert : ByteArray := prog_1_method_5_code
def yX0_insert : MethodName := ⟨RX0, "insert", "(IZJ)I"⟩
abbrev cX0_cut : ByteArray := prog_1_method_6_code
def yX0_cut : MethodName := ⟨RX0, "cut", "(II)I"⟩
abbrev cX0_swap : ByteArray := prog_1_method_7_code
def yX0_swap : MethodName := ⟨RX0, "swap", "(II)I"⟩
abbrev cX0_take : ByteArray := prog_1_method_8_code
def yX0_take : MethodName := ⟨RX0, "take", "(I)I"⟩
abbrev cX0_set : ByteArray := prog_1_method_9_code
def yX0_set : MethodName := ⟨RX0, "set", "(II)I"⟩
abbrev cX0_get : ByteArray := prog_1_method_10_code
def yX0_get : MethodName := ⟨RX0, "get", "(I)I"⟩
abbrev cX0_turn : ByteArray := prog_1_method_11_code
def yX0_turn : MethodName := ⟨RX0, "turn", "()I"⟩
abbrev cX0_find : ByteArray := prog_1_method_12_code
def yX0_find : MethodName := ⟨RX0, "find", "(IZ)I"⟩
abbrev cX0_length : ByteArray := prog_1_method_13_code
def yX0_length : MethodName := ⟨RX0, "length", "(I)I"⟩
abbrev cX0_lift : ByteArray := prog_1_method_14_code
def yX0_lift : MethodName := ⟨RX0, "lift", "(II)I"⟩
abbrev cX0_look : ByteArray := prog_1_method_15_code
def yX0_look : MethodName := ⟨RX0, "look", "(I)I"⟩
abbrev cX0_scrap : ByteArray := prog_1_method_16_code
def yX0_scrap : MethodName := ⟨RX0, "scrap", "(I)I"⟩
abbrev cX0_compare : ByteArray := prog_1_method_17_code
def yX0_compare : MethodName := ⟨RX0, "compare", "()I"⟩
abbrev cX0_order : ByteArray := prog_1_method_18_code
def yX0_order : MethodName := ⟨RX0, "order", "(II)I"⟩
abbrev cX0_isSign : ByteArray := prog_1_method_19_code
def yX0_isSign : MethodName := ⟨RX0, "isSign", "(J)Z"⟩
abbrev cX0_isPlace : ByteArray := prog_1_method_20_code
def yX0_isPlace : MethodName := ⟨RX0, "isPlace", "(I)Z"⟩
abbrev cX0_isPlaceOrEnd : ByteArray := prog_1_method_21_code
def yX0_isPlaceOrEnd : MethodName := ⟨RX0, "isPlaceOrEnd", "(I)Z"⟩
abbrev cX0_hasRoom : ByteArray := prog_1_method_22_code
def yX0_hasRoom : MethodName := ⟨RX0, "hasRoom", "(I)Z"⟩
abbrev cX0_makeGap : ByteArray := prog_1_method_23_code
def yX0_makeGap : MethodName := ⟨RX0, "makeGap", "(III)V"⟩
abbrev cX0_putScrap : ByteArray := prog_1_method_24_code
def yX0_putScrap : MethodName := ⟨RX0, "putScrap", "(II)I"⟩
abbrev cX0_putSign : ByteArray := prog_1_method_25_code
def yX0_putSign : MethodName := ⟨RX0, "putSign", "(II)I"⟩
abbrev cX0_putWord : ByteArray := prog_1_method_26_code
def yX0_putWord : MethodName := ⟨RX0, "putWord", "(ILjava/lang/String;)I"⟩
abbrev cX0_putDigits : ByteArray := prog_1_method_27_code
def yX0_putDigits : MethodName := ⟨RX0, "putDigits", "(IJ)I"⟩
abbrev cX0_countDigits : ByteArray := prog_1_method_28_code
def yX0_countDigits : MethodName := ⟨RX0, "countDigits", "(J)I"⟩
abbrev cX0_findForward : ByteArray := prog_1_method_29_code
def yX0_findForward : MethodName := ⟨RX0, "findForward", "(I)I"⟩
abbrev cX0_findBackward : ByteArray := prog_1_method_30_code
def yX0_findBackward : MethodName := ⟨RX0, "findBackward", "(I)I"⟩
abbrev cX0_scrapStandsAt : ByteArray := prog_1_method_31_code
def yX0_scrapStandsAt : MethodName := ⟨RX0, "scrapStandsAt", "(I)Z"⟩
abbrev cX0_sumOfText : ByteArray := prog_1_method_32_code
def yX0_sumOfText : MethodName := ⟨RX0, "sumOfText", "()I"⟩
def RJ9 : String := "java/lang/Math"
abbrev cJ9_abs_0f7a4 : ByteArray := prog_4_method_59_code
def yJ9_abs_0f7a4 : MethodName := ⟨RJ9, "abs", "(I)I"⟩
abbrev cJ9_max_7cf53 : ByteArray := prog_4_method_65_code
def yJ9_max_7cf53 : MethodName := ⟨RJ9, "max", "(II)I"⟩
abbrev cJ9_min_7cf53 : ByteArray := prog_4_method_69_code
def yJ9_min_7cf53 : MethodName := ⟨RJ9, "min", "(II)I"⟩
def RJ0 : String := "java/lang/String"
abbrev cJ0_length_8abf5 : ByteArray := prog_5_method_54_code
def yJ0_length_8abf5 : MethodName := ⟨RJ0, "length", "()I"⟩
abbrev cJ0_charAt_5068e : ByteArray := prog_5_method_56_code
def yJ0_charAt_5068e : MethodName := ⟨RJ0, "charAt", "(I)C"⟩
abbrev cJ0_coder_7d493 : ByteArray := prog_5_method_152_code
def yJ0_coder_7d493 : MethodName := ⟨RJ0, "coder", "()B"⟩
abbrev cJ0_isLatin1_aae02 : ByteArray := prog_5_method_154_code
def yJ0_isLatin1_aae02 : MethodName := ⟨RJ0, "isLatin1", "()Z"⟩
abbrev cJ0_checkIndex_df160 : ByteArray := prog_5_method_155_code
def yJ0_checkIndex_df160 : MethodName := ⟨RJ0, "checkIndex", "(II)V"⟩
def RJ1 : String := "java/lang/StringLatin1"
abbrev cJ1_charAt_3b067 : ByteArray := prog_6_method_2_code
def yJ1_charAt_3b067 : MethodName := ⟨RJ1, "charAt", "([BI)C"⟩
def RJ2 : String := "java/lang/StringUTF16"
abbrev cJ2_getChar_3b067 : ByteArray := prog_7_method_5_code
def yJ2_getChar_3b067 : MethodName := ⟨RJ2, "getChar", "([BI)C"⟩
abbrev cJ2_length_9d52b : ByteArray := prog_7_method_6_code
def yJ2_length_9d52b : MethodName := ⟨RJ2, "length", "([B)I"⟩
abbrev cJ2_charAt_3b067 : ByteArray := prog_7_method_83_code
def yJ2_charAt_3b067 : MethodName := ⟨RJ2, "charAt", "([BI)C"⟩
abbrev cJ2_checkIndex_2214a : ByteArray := prog_7_method_91_code
def yJ2_checkIndex_2214a : MethodName := ⟨RJ2, "checkIndex", "(I[B)V"⟩
def RJ10 : String := "java/lang/System"
def RJ3 : String := "jdk/internal/util/Preconditions"
abbrev cJ3_checkIndex_8e157 : ByteArray := prog_9_method_11_code
def yJ3_checkIndex_8e157 : MethodName := ⟨RJ3, "checkIndex", "(IILjava/util/function/BiFunction;)I"⟩
def RL : String := "TextLoomLaw"
abbrev cL_law : ByteArray := code
def yL_law : MethodName := ⟨RL, "law", "([I)Z"⟩
def RX1 : String := "TextLoomModel"
def TX1 : u_T := fun k => match k with
  | 0 => ("TextLoomModel", "text", "[I", true)
  | 1 => ("TextLoomModel", "scrap", "[I", true)
  | 2 => ("TextLoomModel", "digits", "[I", true)
  | 3 => ("TextLoomModel", "many", "I", false)
  | 4 => ("TextLoomModel", "notes", "I", false)
  | _ => ("TextLoomModel", "digitMany", "I", false)
def tyX1 : Nat → FieldType := fun k => match k with
  | 0 => .array .int
  | 1 => .array .int
  | 2 => .array .int
  | 3 => .int
  | 4 => .int
  | _ => .int
theorem nmX1 : ∀ a, a < 6 → ∀ b, b < 6 → a ≠ b → (TX1 a).2.1 ≠ (TX1 b).2.1 := by decide +kernel
theorem tyX1_ok : ∀ k, k < 6 → parseFieldDescriptor (TX1 k).2.2.1 = some (tyX1 k) := by decide +kernel
abbrev cX1_init : ByteArray := prog_3_method_1_code
def yX1_init : MethodName := ⟨RX1, "<init>", "()V"⟩
abbrev cX1_note : ByteArray := prog_3_method_7_code
def yX1_note : MethodName := ⟨RX1, "note", "(I)I"⟩
abbrev cX1_isSign : ByteArray := prog_3_method_2_code
def yX1_isSign : MethodName := ⟨RX1, "isSign", "(J)Z"⟩
abbrev cX1_drop : ByteArray := prog_3_method_8_code
def yX1_drop : MethodName := ⟨RX1, "drop", "()I"⟩
abbrev cX1_scrap : ByteArray := prog_3_method_9_code
def yX1_scrap : MethodName := ⟨RX1, "scrap", "(I)I"⟩
abbrev cX1_lift : ByteArray := prog_3_method_10_code
def yX1_lift : MethodName := ⟨RX1, "lift", "(II)I"⟩
abbrev cX1_add : ByteArray := prog_3_method_14_code
def yX1_add : MethodName := ⟨RX1, "add", "(IJ)I"⟩
abbrev cX1_digits : ByteArray := prog_3_method_3_code
def yX1_digits : MethodName := ⟨RX1, "digits", "(J)V"⟩
abbrev cX1_putDigits : ByteArray := prog_3_method_11_code
def yX1_putDigits : MethodName := ⟨RX1, "putDigits", "(I)I"⟩
abbrev cX1_full : ByteArray := prog_3_method_6_code
def yX1_full : MethodName := ⟨RX1, "full", "(I)Z"⟩
abbrev cX1_open : ByteArray := prog_3_method_4_code
def yX1_open : MethodName := ⟨RX1, "open", "(II)V"⟩
abbrev cX1_letters : ByteArray := prog_3_method_13_code
def yX1_letters : MethodName := ⟨RX1, "letters", "(Z)I"⟩
abbrev cX1_putScrap : ByteArray := prog_3_method_12_code
def yX1_putScrap : MethodName := ⟨RX1, "putScrap", "(I)I"⟩
abbrev cX1_insert : ByteArray := prog_3_method_15_code
def yX1_insert : MethodName := ⟨RX1, "insert", "(IZJ)I"⟩
abbrev cX1_cut : ByteArray := prog_3_method_16_code
def yX1_cut : MethodName := ⟨RX1, "cut", "(II)I"⟩
abbrev cX1_close : ByteArray := prog_3_method_5_code
def yX1_close : MethodName := ⟨RX1, "close", "(II)V"⟩
abbrev cX1_swap : ByteArray := prog_3_method_17_code
def yX1_swap : MethodName := ⟨RX1, "swap", "(II)I"⟩
abbrev cX1_take : ByteArray := prog_3_method_18_code
def yX1_take : MethodName := ⟨RX1, "take", "(I)I"⟩
abbrev cX1_set : ByteArray := prog_3_method_19_code
def yX1_set : MethodName := ⟨RX1, "set", "(II)I"⟩
abbrev cX1_get : ByteArray := prog_3_method_20_code
def yX1_get : MethodName := ⟨RX1, "get", "(I)I"⟩
abbrev cX1_turn : ByteArray := prog_3_method_21_code
def yX1_turn : MethodName := ⟨RX1, "turn", "()I"⟩
abbrev cX1_length : ByteArray := prog_3_method_22_code
def yX1_length : MethodName := ⟨RX1, "length", "(I)I"⟩
abbrev cX1_find : ByteArray := prog_3_method_24_code
def yX1_find : MethodName := ⟨RX1, "find", "(IZ)I"⟩
abbrev cX1_stands : ByteArray := prog_3_method_23_code
def yX1_stands : MethodName := ⟨RX1, "stands", "(I)Z"⟩
abbrev cX1_look : ByteArray := prog_3_method_25_code
def yX1_look : MethodName := ⟨RX1, "look", "(I)I"⟩
abbrev cX1_compare : ByteArray := prog_3_method_26_code
def yX1_compare : MethodName := ⟨RX1, "compare", "()I"⟩
abbrev vwCl : List vw_C := [(RX0, TX0, 4), (RX1, TX1, 6)]
theorem dX0_init_0 : decode cX0_init 0 = .ok (.aload_n 0, 1) := by decide +kernel
theorem dX0_init_1 : decode cX0_init 1 = .ok (.invokespecial 1, 3) := by decide +kernel
theorem dX0_init_4 : decode cX0_init 4 = .ok (.aload_n 0, 1) := by decide +kernel
theorem dX0_init_5 : decode cX0_init 5 = .ok (.sipush 3000, 3) := by decide +kernel
theorem dX0_init_8 : decode cX0_init 8 = .ok (.newarray .int, 2) := by decide +kernel
theorem dX0_init_10 : decode cX0_init 10 = .ok (.putfield 9, 3) := by decide +kernel
theorem dX0_init_13 : decode cX0_init 13 = .ok (.aload_n 0, 1) := by decide +kernel
theorem dX0_init_14 : decode cX0_init 14 = .ok (.bipush 40, 2) := by decide +kernel
theorem dX0_init_16 : decode cX0_init 16 = .ok (.newarray .int, 2) := by decide +kernel
theorem dX0_init_18 : decode cX0_init 18 = .ok (.putfield 13, 3) := by decide +kernel
theorem dX0_init_21 : decode cX0_init 21 = .ok (.aload_n 0, 1) := by decide +kernel
theorem dX0_init_22 : decode cX0_init 22 = .ok (.iconst 0, 1) := by decide +kernel
theorem dX0_init_23 : decode cX0_init 23 = .ok (.putfield 16, 3) := by decide +kernel
theorem dX0_init_26 : decode cX0_init 26 = .ok (.aload_n 0, 1) := by decide +kernel
theorem dX0_init_27 : decode cX0_init 27 = .ok (.iconst 0, 1) := by decide +kernel
theorem dX0_init_28 : decode cX0_init 28 = .ok (.putfield 20, 3) := by decide +kernel
theorem dX0_init_31 : decode cX0_init 31 = .ok (.return_, 1) := by decide +kernel
theorem dX0_note_0 : decode cX0_note 0 = .ok (.iload_n 1, 1) := by decide +kernel
theorem dX0_note_1 : decode cX0_note 1 = .ok (.i2l, 1) := by decide +kernel
theorem dX0_note_2 : decode cX0_note 2 = .ok (.invokestatic 23, 3) := by decide +kernel
theorem dX0_note_5 : decode cX0_note 5 = .ok (.ifCond .ne 5, 3) := by decide +kernel
theorem dX0_note_8 : decode cX0_note 8 = .ok (.iconst (-1), 1) := by decide +kernel
theorem dX0_note_9 : decode cX0_note 9 = .ok (.ireturn, 1) := by decide +kernel
theorem dX0_note_10 : decode cX0_note 10 = .ok (.aload_n 0, 1) := by decide +kernel
theorem dX0_note_11 : decode cX0_note 11 = .ok (.getfield 20, 3) := by decide +kernel
theorem dX0_note_14 : decode cX0_note 14 = .ok (.bipush 40, 2) := by decide +kernel
theorem dX0_note_16 : decode cX0_note 16 = .ok (.if_icmp .lt 6, 3) := by decide +kernel
theorem dX0_note_19 : decode cX0_note 19 = .ok (.bipush (-3), 2) := by decide +kernel
theorem dX0_note_21 : decode cX0_note 21 = .ok (.ireturn, 1) := by decide +kernel
theorem dX0_note_22 : decode cX0_note 22 = .ok (.aload_n 0, 1) := by decide +kernel
theorem dX0_note_23 : decode cX0_note 23 = .ok (.getfield 13, 3) := by decide +kernel
theorem dX0_note_26 : decode cX0_note 26 = .ok (.aload_n 0, 1) := by decide +kernel
theorem dX0_note_27 : decode cX0_note 27 = .ok (.getfield 20, 3) := by decide +kernel
theorem dX0_note_30 : decode cX0_note 30 = .ok (.iload_n 1, 1) := by decide +kernel
theorem dX0_note_31 : decode cX0_note 31 = .ok (.iastore, 1) := by decide +kernel
theorem dX0_note_32 : decode cX0_note 32 = .ok (.aload_n 0, 1) := by decide +kernel
theorem dX0_note_33 : decode cX0_note 33 = .ok (.dup, 1) := by decide +kernel
theorem dX0_note_34 : decode cX0_note 34 = .ok (.getfield 20, 3) := by decide +kernel
theorem dX0_note_37 : decode cX0_note 37 = .ok (.iconst 1, 1) := by decide +kernel
theorem dX0_note_38 : decode cX0_note 38 = .ok (.iadd, 1) := by decide +kernel
theorem dX0_note_39 : decode cX0_note 39 = .ok (.putfield 20, 3) := by decide +kernel
theorem dX0_note_42 : decode cX0_note 42 = .ok (.aload_n 0, 1) := by decide +kernel
theorem dX0_note_43 : decode cX0_note 43 = .ok (.getfield 20, 3) := by decide +kernel
theorem dX0_note_46 : decode cX0_note 46 = .ok (.ireturn, 1) := by decide +kernel
theorem dX0_drop_0 : decode cX0_drop 0 = .ok (.aload_n 0, 1) := by decide +kernel
theorem dX0_drop_1 : decode cX0_drop 1 = .ok (.getfield 20, 3) := by decide +kernel
theorem dX0_drop_4 : decode cX0_drop 4 = .ok (.istore_n 1, 1) := by decide +kernel
theorem dX0_drop_5 : decode cX0_drop 5 = .ok (.aload_n 0, 1) := by decide +kernel
theorem dX0_drop_6 : decode cX0_drop 6 = .ok (.iconst 0, 1) := by decide +kernel
theorem dX0_drop_7 : decode cX0_drop 7 = .ok (.putfield 20, 3) := by decide +kernel
theorem dX0_drop_10 : decode cX0_drop 10 = .ok (.iload_n 1, 1) := by decide +kernel
theorem dX0_drop_11 : decode cX0_drop 11 = .ok (.ireturn, 1) := by decide +kernel
theorem dX0_add_0 : decode cX0_add 0 = .ok (.iload_n 1, 1) := by decide +kernel
theorem dX0_add_1 : decode cX0_add 1 = .ok (.tableswitch 98 0 3 #[31, 41, 63, 76], 31) := by decide +kernel
theorem dX0_add_32 : decode cX0_add 32 = .ok (.aload_n 0, 1) := by decide +kernel
theorem dX0_add_33 : decode cX0_add 33 = .ok (.aload_n 0, 1) := by decide +kernel
theorem dX0_add_34 : decode cX0_add 34 = .ok (.getfield 16, 3) := by decide +kernel
theorem dX0_add_37 : decode cX0_add 37 = .ok (.lload_n 2, 1) := by decide +kernel
theorem dX0_add_38 : decode cX0_add 38 = .ok (.invokevirtual 27, 3) := by decide +kernel
theorem dX0_add_41 : decode cX0_add 41 = .ok (.ireturn, 1) := by decide +kernel
theorem dX0_add_42 : decode cX0_add 42 = .ok (.aload_n 0, 1) := by decide +kernel
theorem dX0_add_43 : decode cX0_add 43 = .ok (.aload_n 0, 1) := by decide +kernel
theorem dX0_add_44 : decode cX0_add 44 = .ok (.getfield 16, 3) := by decide +kernel
theorem dX0_add_47 : decode cX0_add 47 = .ok (.lload_n 2, 1) := by decide +kernel
theorem dX0_add_48 : decode cX0_add 48 = .ok (.lconst 0, 1) := by decide +kernel
theorem dX0_add_49 : decode cX0_add 49 = .ok (.lcmp, 1) := by decide +kernel
theorem dX0_add_50 : decode cX0_add 50 = .ok (.ifCond .ne 8, 3) := by decide +kernel
theorem dX0_add_53 : decode cX0_add 53 = .ok (.ldc 31, 2) := by decide +kernel
theorem dX0_add_55 : decode cX0_add 55 = .ok (.goto 5, 3) := by decide +kernel
theorem dX0_add_58 : decode cX0_add 58 = .ok (.ldc 33, 2) := by decide +kernel
theorem dX0_add_60 : decode cX0_add 60 = .ok (.invokevirtual 35, 3) := by decide +kernel
theorem dX0_add_63 : decode cX0_add 63 = .ok (.ireturn, 1) := by decide +kernel
theorem dX0_add_64 : decode cX0_add 64 = .ok (.aload_n 0, 1) := by decide +kernel
theorem dX0_add_65 : decode cX0_add 65 = .ok (.aload_n 0, 1) := by decide +kernel
theorem dX0_add_66 : decode cX0_add 66 = .ok (.getfield 16, 3) := by decide +kernel
theorem dX0_add_69 : decode cX0_add 69 = .ok (.aload_n 0, 1) := by decide +kernel
theorem dX0_add_70 : decode cX0_add 70 = .ok (.getfield 16, 3) := by decide +kernel
theorem dX0_add_73 : decode cX0_add 73 = .ok (.invokevirtual 39, 3) := by decide +kernel
theorem dX0_add_76 : decode cX0_add 76 = .ok (.ireturn, 1) := by decide +kernel
theorem dX0_add_77 : decode cX0_add 77 = .ok (.lload_n 2, 1) := by decide +kernel
theorem dX0_add_78 : decode cX0_add 78 = .ok (.invokestatic 23, 3) := by decide +kernel
theorem dX0_add_81 : decode cX0_add 81 = .ok (.ifCond .eq 16, 3) := by decide +kernel
theorem dX0_add_84 : decode cX0_add 84 = .ok (.aload_n 0, 1) := by decide +kernel
theorem dX0_add_85 : decode cX0_add 85 = .ok (.aload_n 0, 1) := by decide +kernel
theorem dX0_add_86 : decode cX0_add 86 = .ok (.getfield 16, 3) := by decide +kernel
theorem dX0_add_89 : decode cX0_add 89 = .ok (.lload_n 2, 1) := by decide +kernel
theorem dX0_add_90 : decode cX0_add 90 = .ok (.l2i, 1) := by decide +kernel
theorem dX0_add_91 : decode cX0_add 91 = .ok (.invokevirtual 43, 3) := by decide +kernel
theorem dX0_add_94 : decode cX0_add 94 = .ok (.goto 4, 3) := by decide +kernel
theorem dX0_add_97 : decode cX0_add 97 = .ok (.iconst (-1), 1) := by decide +kernel
theorem dX0_add_98 : decode cX0_add 98 = .ok (.ireturn, 1) := by decide +kernel
theorem dX0_add_99 : decode cX0_add 99 = .ok (.iconst (-1), 1) := by decide +kernel
theorem dX0_add_100 : decode cX0_add 100 = .ok (.ireturn, 1) := by decide +kernel
theorem dX0_insert_0 : decode cX0_insert 0 = .ok (.aload_n 0, 1) := by decide +kernel
theorem dX0_insert_1 : decode cX0_insert 1 = .ok (.iload_n 1, 1) := by decide +kernel
theorem dX0_insert_2 : decode cX0_insert 2 = .ok (.invokevirtual 46, 3) := by decide +kernel
theorem dX0_insert_5 : decode cX0_insert 5 = .ok (.ifCond .ne 5, 3) := by decide +kernel
theorem dX0_insert_8 : decode cX0_insert 8 = .ok (.iconst (-1), 1) := by decide +kernel
theorem dX0_insert_9 : decode cX0_insert 9 = .ok (.ireturn, 1) := by decide +kernel
theorem dX0_insert_10 : decode cX0_insert 10 = .ok (.iload_n 2, 1) := by decide +kernel
theorem dX0_insert_11 : decode cX0_insert 11 = .ok (.ifCond .eq 12, 3) := by decide +kernel
theorem dX0_insert_14 : decode cX0_insert 14 = .ok (.aload_n 0, 1) := by decide +kernel
theorem dX0_insert_15 : decode cX0_insert 15 = .ok (.iload_n 1, 1) := by decide +kernel
theorem dX0_insert_16 : decode cX0_insert 16 = .ok (.lload_n 3, 1) := by decide +kernel
theorem dX0_insert_17 : decode cX0_insert 17 = .ok (.invokevirtual 27, 3) := by decide +kernel
theorem dX0_insert_20 : decode cX0_insert 20 = .ok (.goto 9, 3) := by decide +kernel
theorem dX0_insert_23 : decode cX0_insert 23 = .ok (.aload_n 0, 1) := by decide +kernel
theorem dX0_insert_24 : decode cX0_insert 24 = .ok (.iload_n 1, 1) := by decide +kernel
theorem dX0_insert_25 : decode cX0_insert 25 = .ok (.iload_n 1, 1) := by decide +kernel
theorem dX0_insert_26 : decode cX0_insert 26 = .ok (.invokevirtual 39, 3) := by decide +kernel
theorem dX0_insert_29 : decode cX0_insert 29 = .ok (.ireturn, 1) := by decide +kernel
theorem dX0_cut_0 : decode cX0_cut 0 = .ok (.aload_n 0, 1) := by decide +kernel
theorem dX0_cut_1 : decode cX0_cut 1 = .ok (.iload_n 1, 1) := by decide +kernel
theorem dX0_cut_2 : decode cX0_cut 2 = .ok (.invokevirtual 46, 3) := by decide +kernel
theorem dX0_cut_5 : decode cX0_cut 5 = .ok (.ifCond .eq 8, 3) := by decide +kernel
theorem dX0_cut_8 : decode cX0_cut 8 = .ok (.iload_n 2, 1) := by decide +kernel
theorem dX0_cut_9 : decode cX0_cut 9 = .ok (.iload_n 1, 1) := by decide +kernel
theorem dX0_cut_10 : decode cX0_cut 10 = .ok (.if_icmp .ge 5, 3) := by decide +kernel
theorem dX0_cut_13 : decode cX0_cut 13 = .ok (.iconst (-1), 1) := by decide +kernel
theorem dX0_cut_14 : decode cX0_cut 14 = .ok (.ireturn, 1) := by decide +kernel
theorem dX0_cut_15 : decode cX0_cut 15 = .ok (.aload_n 0, 1) := by decide +kernel
theorem dX0_cut_16 : decode cX0_cut 16 = .ok (.iload_n 1, 1) := by decide +kernel
theorem dX0_cut_17 : decode cX0_cut 17 = .ok (.iload_n 2, 1) := by decide +kernel
theorem dX0_cut_18 : decode cX0_cut 18 = .ok (.aload_n 0, 1) := by decide +kernel
theorem dX0_cut_19 : decode cX0_cut 19 = .ok (.getfield 16, 3) := by decide +kernel
theorem dX0_cut_22 : decode cX0_cut 22 = .ok (.invokestatic 50, 3) := by decide +kernel
theorem dX0_cut_25 : decode cX0_cut 25 = .ok (.iconst 0, 1) := by decide +kernel
theorem dX0_cut_26 : decode cX0_cut 26 = .ok (.invokevirtual 55, 3) := by decide +kernel
theorem dX0_cut_29 : decode cX0_cut 29 = .ok (.aload_n 0, 1) := by decide +kernel
theorem dX0_cut_30 : decode cX0_cut 30 = .ok (.getfield 16, 3) := by decide +kernel
theorem dX0_cut_33 : decode cX0_cut 33 = .ok (.ireturn, 1) := by decide +kernel
theorem dX0_swap_0 : decode cX0_swap 0 = .ok (.aload_n 0, 1) := by decide +kernel
theorem dX0_swap_1 : decode cX0_swap 1 = .ok (.iload_n 1, 1) := by decide +kernel
theorem dX0_swap_2 : decode cX0_swap 2 = .ok (.invokevirtual 46, 3) := by decide +kernel
theorem dX0_swap_5 : decode cX0_swap 5 = .ok (.ifCond .eq 8, 3) := by decide +kernel
theorem dX0_swap_8 : decode cX0_swap 8 = .ok (.iload_n 2, 1) := by decide +kernel
theorem dX0_swap_9 : decode cX0_swap 9 = .ok (.iload_n 1, 1) := by decide +kernel
theorem dX0_swap_10 : decode cX0_swap 10 = .ok (.if_icmp .ge 5, 3) := by decide +kernel
theorem dX0_swap_13 : decode cX0_swap 13 = .ok (.iconst (-1), 1) := by decide +kernel
theorem dX0_swap_14 : decode cX0_swap 14 = .ok (.ireturn, 1) := by decide +kernel
theorem dX0_swap_15 : decode cX0_swap 15 = .ok (.aload_n 0, 1) := by decide +kernel
theorem dX0_swap_16 : decode cX0_swap 16 = .ok (.iload_n 1, 1) := by decide +kernel
theorem dX0_swap_17 : decode cX0_swap 17 = .ok (.iload_n 2, 1) := by decide +kernel
theorem dX0_swap_18 : decode cX0_swap 18 = .ok (.aload_n 0, 1) := by decide +kernel
theorem dX0_swap_19 : decode cX0_swap 19 = .ok (.getfield 16, 3) := by decide +kernel
theorem dX0_swap_22 : decode cX0_swap 22 = .ok (.invokestatic 50, 3) := by decide +kernel
theorem dX0_swap_25 : decode cX0_swap 25 = .ok (.invokevirtual 39, 3) := by decide +kernel
theorem dX0_swap_28 : decode cX0_swap 28 = .ok (.ireturn, 1) := by decide +kernel
theorem dX0_take_0 : decode cX0_take 0 = .ok (.aload_n 0, 1) := by decide +kernel
theorem dX0_take_1 : decode cX0_take 1 = .ok (.iload_n 1, 1) := by decide +kernel
theorem dX0_take_2 : decode cX0_take 2 = .ok (.invokevirtual 59, 3) := by decide +kernel
theorem dX0_take_5 : decode cX0_take 5 = .ok (.ifCond .ne 5, 3) := by decide +kernel
theorem dX0_take_8 : decode cX0_take 8 = .ok (.iconst (-1), 1) := by decide +kernel
theorem dX0_take_9 : decode cX0_take 9 = .ok (.ireturn, 1) := by decide +kernel
theorem dX0_take_10 : decode cX0_take 10 = .ok (.aload_n 0, 1) := by decide +kernel
theorem dX0_take_11 : decode cX0_take 11 = .ok (.getfield 9, 3) := by decide +kernel
theorem dX0_take_14 : decode cX0_take 14 = .ok (.iload_n 1, 1) := by decide +kernel
theorem dX0_take_15 : decode cX0_take 15 = .ok (.iaload, 1) := by decide +kernel
theorem dX0_take_16 : decode cX0_take 16 = .ok (.istore_n 2, 1) := by decide +kernel
theorem dX0_take_17 : decode cX0_take 17 = .ok (.aload_n 0, 1) := by decide +kernel
theorem dX0_take_18 : decode cX0_take 18 = .ok (.iload_n 1, 1) := by decide +kernel
theorem dX0_take_19 : decode cX0_take 19 = .ok (.iload_n 1, 1) := by decide +kernel
theorem dX0_take_20 : decode cX0_take 20 = .ok (.iconst 1, 1) := by decide +kernel
theorem dX0_take_21 : decode cX0_take 21 = .ok (.iadd, 1) := by decide +kernel
theorem dX0_take_22 : decode cX0_take 22 = .ok (.iconst 0, 1) := by decide +kernel
theorem dX0_take_23 : decode cX0_take 23 = .ok (.invokevirtual 55, 3) := by decide +kernel
theorem dX0_take_26 : decode cX0_take 26 = .ok (.iload_n 2, 1) := by decide +kernel
theorem dX0_take_27 : decode cX0_take 27 = .ok (.ireturn, 1) := by decide +kernel
theorem dX0_set_0 : decode cX0_set 0 = .ok (.aload_n 0, 1) := by decide +kernel
theorem dX0_set_1 : decode cX0_set 1 = .ok (.iload_n 1, 1) := by decide +kernel
theorem dX0_set_2 : decode cX0_set 2 = .ok (.invokevirtual 59, 3) := by decide +kernel
theorem dX0_set_5 : decode cX0_set 5 = .ok (.ifCond .eq 11, 3) := by decide +kernel
theorem dX0_set_8 : decode cX0_set 8 = .ok (.iload_n 2, 1) := by decide +kernel
theorem dX0_set_9 : decode cX0_set 9 = .ok (.i2l, 1) := by decide +kernel
theorem dX0_set_10 : decode cX0_set 10 = .ok (.invokestatic 23, 3) := by decide +kernel
theorem dX0_set_13 : decode cX0_set 13 = .ok (.ifCond .ne 5, 3) := by decide +kernel
theorem dX0_set_16 : decode cX0_set 16 = .ok (.iconst (-1), 1) := by decide +kernel
theorem dX0_set_17 : decode cX0_set 17 = .ok (.ireturn, 1) := by decide +kernel
theorem dX0_set_18 : decode cX0_set 18 = .ok (.aload_n 0, 1) := by decide +kernel
theorem dX0_set_19 : decode cX0_set 19 = .ok (.getfield 9, 3) := by decide +kernel
theorem dX0_set_22 : decode cX0_set 22 = .ok (.iload_n 1, 1) := by decide +kernel
theorem dX0_set_23 : decode cX0_set 23 = .ok (.iaload, 1) := by decide +kernel
theorem dX0_set_24 : decode cX0_set 24 = .ok (.istore_n 3, 1) := by decide +kernel
theorem dX0_set_25 : decode cX0_set 25 = .ok (.aload_n 0, 1) := by decide +kernel
theorem dX0_set_26 : decode cX0_set 26 = .ok (.getfield 9, 3) := by decide +kernel
theorem dX0_set_29 : decode cX0_set 29 = .ok (.iload_n 1, 1) := by decide +kernel
theorem dX0_set_30 : decode cX0_set 30 = .ok (.iload_n 2, 1) := by decide +kernel
theorem dX0_set_31 : decode cX0_set 31 = .ok (.iastore, 1) := by decide +kernel
theorem dX0_set_32 : decode cX0_set 32 = .ok (.iload_n 3, 1) := by decide +kernel
theorem dX0_set_33 : decode cX0_set 33 = .ok (.ireturn, 1) := by decide +kernel
theorem dX0_get_0 : decode cX0_get 0 = .ok (.aload_n 0, 1) := by decide +kernel
theorem dX0_get_1 : decode cX0_get 1 = .ok (.iload_n 1, 1) := by decide +kernel
theorem dX0_get_2 : decode cX0_get 2 = .ok (.invokevirtual 59, 3) := by decide +kernel
theorem dX0_get_5 : decode cX0_get 5 = .ok (.ifCond .eq 12, 3) := by decide +kernel
theorem dX0_get_8 : decode cX0_get 8 = .ok (.aload_n 0, 1) := by decide +kernel
theorem dX0_get_9 : decode cX0_get 9 = .ok (.getfield 9, 3) := by decide +kernel
theorem dX0_get_12 : decode cX0_get 12 = .ok (.iload_n 1, 1) := by decide +kernel
theorem dX0_get_13 : decode cX0_get 13 = .ok (.iaload, 1) := by decide +kernel
theorem dX0_get_14 : decode cX0_get 14 = .ok (.goto 4, 3) := by decide +kernel
theorem dX0_get_17 : decode cX0_get 17 = .ok (.iconst (-1), 1) := by decide +kernel
theorem dX0_get_18 : decode cX0_get 18 = .ok (.ireturn, 1) := by decide +kernel
theorem dX0_turn_0 : decode cX0_turn 0 = .ok (.iconst 0, 1) := by decide +kernel
theorem dX0_turn_1 : decode cX0_turn 1 = .ok (.istore_n 1, 1) := by decide +kernel
theorem dX0_turn_2 : decode cX0_turn 2 = .ok (.iload_n 1, 1) := by decide +kernel
theorem dX0_turn_3 : decode cX0_turn 3 = .ok (.aload_n 0, 1) := by decide +kernel
theorem dX0_turn_4 : decode cX0_turn 4 = .ok (.getfield 16, 3) := by decide +kernel
theorem dX0_turn_7 : decode cX0_turn 7 = .ok (.iconst 2, 1) := by decide +kernel
theorem dX0_turn_8 : decode cX0_turn 8 = .ok (.idiv, 1) := by decide +kernel
theorem dX0_turn_9 : decode cX0_turn 9 = .ok (.if_icmp .ge 44, 3) := by decide +kernel
theorem dX0_turn_12 : decode cX0_turn 12 = .ok (.aload_n 0, 1) := by decide +kernel
theorem dX0_turn_13 : decode cX0_turn 13 = .ok (.getfield 16, 3) := by decide +kernel
theorem dX0_turn_16 : decode cX0_turn 16 = .ok (.iconst 1, 1) := by decide +kernel
theorem dX0_turn_17 : decode cX0_turn 17 = .ok (.isub, 1) := by decide +kernel
theorem dX0_turn_18 : decode cX0_turn 18 = .ok (.iload_n 1, 1) := by decide +kernel
theorem dX0_turn_19 : decode cX0_turn 19 = .ok (.isub, 1) := by decide +kernel
theorem dX0_turn_20 : decode cX0_turn 20 = .ok (.istore_n 2, 1) := by decide +kernel
theorem dX0_turn_21 : decode cX0_turn 21 = .ok (.aload_n 0, 1) := by decide +kernel
theorem dX0_turn_22 : decode cX0_turn 22 = .ok (.getfield 9, 3) := by decide +kernel
theorem dX0_turn_25 : decode cX0_turn 25 = .ok (.iload_n 1, 1) := by decide +kernel
theorem dX0_turn_26 : decode cX0_turn 26 = .ok (.iaload, 1) := by decide +kernel
theorem dX0_turn_27 : decode cX0_turn 27 = .ok (.istore_n 3, 1) := by decide +kernel
theorem dX0_turn_28 : decode cX0_turn 28 = .ok (.aload_n 0, 1) := by decide +kernel
theorem dX0_turn_29 : decode cX0_turn 29 = .ok (.getfield 9, 3) := by decide +kernel
theorem dX0_turn_32 : decode cX0_turn 32 = .ok (.iload_n 1, 1) := by decide +kernel
theorem dX0_turn_33 : decode cX0_turn 33 = .ok (.aload_n 0, 1) := by decide +kernel
theorem dX0_turn_34 : decode cX0_turn 34 = .ok (.getfield 9, 3) := by decide +kernel
theorem dX0_turn_37 : decode cX0_turn 37 = .ok (.iload_n 2, 1) := by decide +kernel
theorem dX0_turn_38 : decode cX0_turn 38 = .ok (.iaload, 1) := by decide +kernel
theorem dX0_turn_39 : decode cX0_turn 39 = .ok (.iastore, 1) := by decide +kernel
theorem dX0_turn_40 : decode cX0_turn 40 = .ok (.aload_n 0, 1) := by decide +kernel
theorem dX0_turn_41 : decode cX0_turn 41 = .ok (.getfield 9, 3) := by decide +kernel
theorem dX0_turn_44 : decode cX0_turn 44 = .ok (.iload_n 2, 1) := by decide +kernel
theorem dX0_turn_45 : decode cX0_turn 45 = .ok (.iload_n 3, 1) := by decide +kernel
theorem dX0_turn_46 : decode cX0_turn 46 = .ok (.iastore, 1) := by decide +kernel
theorem dX0_turn_47 : decode cX0_turn 47 = .ok (.iinc 1 1, 3) := by decide +kernel
theorem dX0_turn_50 : decode cX0_turn 50 = .ok (.goto (-48), 3) := by decide +kernel
theorem dX0_turn_53 : decode cX0_turn 53 = .ok (.aload_n 0, 1) := by decide +kernel
theorem dX0_turn_54 : decode cX0_turn 54 = .ok (.getfield 16, 3) := by decide +kernel
theorem dX0_turn_57 : decode cX0_turn 57 = .ok (.ireturn, 1) := by decide +kernel
theorem dX0_find_0 : decode cX0_find 0 = .ok (.iload_n 2, 1) := by decide +kernel
theorem dX0_find_1 : decode cX0_find 1 = .ok (.ifCond .eq 11, 3) := by decide +kernel
theorem dX0_find_4 : decode cX0_find 4 = .ok (.aload_n 0, 1) := by decide +kernel
theorem dX0_find_5 : decode cX0_find 5 = .ok (.iload_n 1, 1) := by decide +kernel
theorem dX0_find_6 : decode cX0_find 6 = .ok (.invokevirtual 62, 3) := by decide +kernel
theorem dX0_find_9 : decode cX0_find 9 = .ok (.goto 8, 3) := by decide +kernel
theorem dX0_find_12 : decode cX0_find 12 = .ok (.aload_n 0, 1) := by decide +kernel
theorem dX0_find_13 : decode cX0_find 13 = .ok (.iload_n 1, 1) := by decide +kernel
theorem dX0_find_14 : decode cX0_find 14 = .ok (.invokevirtual 66, 3) := by decide +kernel
theorem dX0_find_17 : decode cX0_find 17 = .ok (.ireturn, 1) := by decide +kernel
theorem dX0_length_0 : decode cX0_length 0 = .ok (.iload_n 1, 1) := by decide +kernel
theorem dX0_length_1 : decode cX0_length 1 = .ok (.ifCond .ge 5, 3) := by decide +kernel
theorem dX0_length_4 : decode cX0_length 4 = .ok (.iconst (-1), 1) := by decide +kernel
theorem dX0_length_5 : decode cX0_length 5 = .ok (.ireturn, 1) := by decide +kernel
theorem dX0_length_6 : decode cX0_length 6 = .ok (.iload_n 1, 1) := by decide +kernel
theorem dX0_length_7 : decode cX0_length 7 = .ok (.sipush 3000, 3) := by decide +kernel
theorem dX0_length_10 : decode cX0_length 10 = .ok (.if_icmp .le 6, 3) := by decide +kernel
theorem dX0_length_13 : decode cX0_length 13 = .ok (.bipush (-3), 2) := by decide +kernel
theorem dX0_length_15 : decode cX0_length 15 = .ok (.ireturn, 1) := by decide +kernel
theorem dX0_length_16 : decode cX0_length 16 = .ok (.aload_n 0, 1) := by decide +kernel
theorem dX0_length_17 : decode cX0_length 17 = .ok (.getfield 16, 3) := by decide +kernel
theorem dX0_length_20 : decode cX0_length 20 = .ok (.istore_n 2, 1) := by decide +kernel
theorem dX0_length_21 : decode cX0_length 21 = .ok (.iload_n 2, 1) := by decide +kernel
theorem dX0_length_22 : decode cX0_length 22 = .ok (.iload_n 1, 1) := by decide +kernel
theorem dX0_length_23 : decode cX0_length 23 = .ok (.if_icmp .ge 16, 3) := by decide +kernel
theorem dX0_length_26 : decode cX0_length 26 = .ok (.aload_n 0, 1) := by decide +kernel
theorem dX0_length_27 : decode cX0_length 27 = .ok (.getfield 9, 3) := by decide +kernel
theorem dX0_length_30 : decode cX0_length 30 = .ok (.iload_n 2, 1) := by decide +kernel
theorem dX0_length_31 : decode cX0_length 31 = .ok (.iconst 0, 1) := by decide +kernel
theorem dX0_length_32 : decode cX0_length 32 = .ok (.iastore, 1) := by decide +kernel
theorem dX0_length_33 : decode cX0_length 33 = .ok (.iinc 2 1, 3) := by decide +kernel
theorem dX0_length_36 : decode cX0_length 36 = .ok (.goto (-15), 3) := by decide +kernel
theorem dX0_length_39 : decode cX0_length 39 = .ok (.aload_n 0, 1) := by decide +kernel
theorem dX0_length_40 : decode cX0_length 40 = .ok (.iload_n 1, 1) := by decide +kernel
theorem dX0_length_41 : decode cX0_length 41 = .ok (.putfield 16, 3) := by decide +kernel
theorem dX0_length_44 : decode cX0_length 44 = .ok (.aload_n 0, 1) := by decide +kernel
theorem dX0_length_45 : decode cX0_length 45 = .ok (.getfield 16, 3) := by decide +kernel
theorem dX0_length_48 : decode cX0_length 48 = .ok (.ireturn, 1) := by decide +kernel
theorem dX0_lift_0 : decode cX0_lift 0 = .ok (.iload_n 1, 1) := by decide +kernel
theorem dX0_lift_1 : decode cX0_lift 1 = .ok (.ifCond .lt 16, 3) := by decide +kernel
theorem dX0_lift_4 : decode cX0_lift 4 = .ok (.iload_n 2, 1) := by decide +kernel
theorem dX0_lift_5 : decode cX0_lift 5 = .ok (.iload_n 1, 1) := by decide +kernel
theorem dX0_lift_6 : decode cX0_lift 6 = .ok (.if_icmp .lt 11, 3) := by decide +kernel
theorem dX0_lift_9 : decode cX0_lift 9 = .ok (.iload_n 2, 1) := by decide +kernel
theorem dX0_lift_10 : decode cX0_lift 10 = .ok (.aload_n 0, 1) := by decide +kernel
theorem dX0_lift_11 : decode cX0_lift 11 = .ok (.getfield 16, 3) := by decide +kernel
theorem dX0_lift_14 : decode cX0_lift 14 = .ok (.if_icmp .le 5, 3) := by decide +kernel
theorem dX0_lift_17 : decode cX0_lift 17 = .ok (.iconst (-1), 1) := by decide +kernel
theorem dX0_lift_18 : decode cX0_lift 18 = .ok (.ireturn, 1) := by decide +kernel
theorem dX0_lift_19 : decode cX0_lift 19 = .ok (.iload_n 2, 1) := by decide +kernel
theorem dX0_lift_20 : decode cX0_lift 20 = .ok (.iload_n 1, 1) := by decide +kernel
theorem dX0_lift_21 : decode cX0_lift 21 = .ok (.isub, 1) := by decide +kernel
theorem dX0_lift_22 : decode cX0_lift 22 = .ok (.istore_n 3, 1) := by decide +kernel
theorem dX0_lift_23 : decode cX0_lift 23 = .ok (.iload_n 3, 1) := by decide +kernel
theorem dX0_lift_24 : decode cX0_lift 24 = .ok (.bipush 40, 2) := by decide +kernel
theorem dX0_lift_26 : decode cX0_lift 26 = .ok (.if_icmp .le 6, 3) := by decide +kernel
theorem dX0_lift_29 : decode cX0_lift 29 = .ok (.bipush (-3), 2) := by decide +kernel
theorem dX0_lift_31 : decode cX0_lift 31 = .ok (.ireturn, 1) := by decide +kernel
theorem dX0_lift_32 : decode cX0_lift 32 = .ok (.aload_n 0, 1) := by decide +kernel
theorem dX0_lift_33 : decode cX0_lift 33 = .ok (.getfield 9, 3) := by decide +kernel
theorem dX0_lift_36 : decode cX0_lift 36 = .ok (.iload_n 1, 1) := by decide +kernel
theorem dX0_lift_37 : decode cX0_lift 37 = .ok (.aload_n 0, 1) := by decide +kernel
theorem dX0_lift_38 : decode cX0_lift 38 = .ok (.getfield 13, 3) := by decide +kernel
theorem dX0_lift_41 : decode cX0_lift 41 = .ok (.iconst 0, 1) := by decide +kernel
theorem dX0_lift_42 : decode cX0_lift 42 = .ok (.iload_n 3, 1) := by decide +kernel
theorem dX0_lift_43 : decode cX0_lift 43 = .ok (.invokestatic 69, 3) := by decide +kernel
theorem dX0_lift_46 : decode cX0_lift 46 = .ok (.aload_n 0, 1) := by decide +kernel
theorem dX0_lift_47 : decode cX0_lift 47 = .ok (.iload_n 3, 1) := by decide +kernel
theorem dX0_lift_48 : decode cX0_lift 48 = .ok (.putfield 20, 3) := by decide +kernel
theorem dX0_lift_51 : decode cX0_lift 51 = .ok (.aload_n 0, 1) := by decide +kernel
theorem dX0_lift_52 : decode cX0_lift 52 = .ok (.getfield 20, 3) := by decide +kernel
theorem dX0_lift_55 : decode cX0_lift 55 = .ok (.ireturn, 1) := by decide +kernel
theorem dX0_look_0 : decode cX0_look 0 = .ok (.iload_n 1, 1) := by decide +kernel
theorem dX0_look_1 : decode cX0_look 1 = .ok (.tableswitch 42 0 2 #[27, 32, 37], 27) := by decide +kernel
theorem dX0_look_28 : decode cX0_look 28 = .ok (.aload_n 0, 1) := by decide +kernel
theorem dX0_look_29 : decode cX0_look 29 = .ok (.getfield 16, 3) := by decide +kernel
theorem dX0_look_32 : decode cX0_look 32 = .ok (.ireturn, 1) := by decide +kernel
theorem dX0_look_33 : decode cX0_look 33 = .ok (.aload_n 0, 1) := by decide +kernel
theorem dX0_look_34 : decode cX0_look 34 = .ok (.getfield 20, 3) := by decide +kernel
theorem dX0_look_37 : decode cX0_look 37 = .ok (.ireturn, 1) := by decide +kernel
theorem dX0_look_38 : decode cX0_look 38 = .ok (.aload_n 0, 1) := by decide +kernel
theorem dX0_look_39 : decode cX0_look 39 = .ok (.invokevirtual 75, 3) := by decide +kernel
theorem dX0_look_42 : decode cX0_look 42 = .ok (.ireturn, 1) := by decide +kernel
theorem dX0_look_43 : decode cX0_look 43 = .ok (.iconst (-1), 1) := by decide +kernel
theorem dX0_look_44 : decode cX0_look 44 = .ok (.ireturn, 1) := by decide +kernel
theorem dX0_scrap_0 : decode cX0_scrap 0 = .ok (.iload_n 1, 1) := by decide +kernel
theorem dX0_scrap_1 : decode cX0_scrap 1 = .ok (.ifCond .lt 20, 3) := by decide +kernel
theorem dX0_scrap_4 : decode cX0_scrap 4 = .ok (.iload_n 1, 1) := by decide +kernel
theorem dX0_scrap_5 : decode cX0_scrap 5 = .ok (.aload_n 0, 1) := by decide +kernel
theorem dX0_scrap_6 : decode cX0_scrap 6 = .ok (.getfield 20, 3) := by decide +kernel
theorem dX0_scrap_9 : decode cX0_scrap 9 = .ok (.if_icmp .ge 12, 3) := by decide +kernel
theorem dX0_scrap_12 : decode cX0_scrap 12 = .ok (.aload_n 0, 1) := by decide +kernel
theorem dX0_scrap_13 : decode cX0_scrap 13 = .ok (.getfield 13, 3) := by decide +kernel
theorem dX0_scrap_16 : decode cX0_scrap 16 = .ok (.iload_n 1, 1) := by decide +kernel
theorem dX0_scrap_17 : decode cX0_scrap 17 = .ok (.iaload, 1) := by decide +kernel
theorem dX0_scrap_18 : decode cX0_scrap 18 = .ok (.goto 4, 3) := by decide +kernel
theorem dX0_scrap_21 : decode cX0_scrap 21 = .ok (.iconst (-1), 1) := by decide +kernel
theorem dX0_scrap_22 : decode cX0_scrap 22 = .ok (.ireturn, 1) := by decide +kernel
theorem dX0_compare_0 : decode cX0_compare 0 = .ok (.aload_n 0, 1) := by decide +kernel
theorem dX0_compare_1 : decode cX0_compare 1 = .ok (.getfield 16, 3) := by decide +kernel
theorem dX0_compare_4 : decode cX0_compare 4 = .ok (.aload_n 0, 1) := by decide +kernel
theorem dX0_compare_5 : decode cX0_compare 5 = .ok (.getfield 20, 3) := by decide +kernel
theorem dX0_compare_8 : decode cX0_compare 8 = .ok (.invokestatic 50, 3) := by decide +kernel
theorem dX0_compare_11 : decode cX0_compare 11 = .ok (.istore_n 1, 1) := by decide +kernel
theorem dX0_compare_12 : decode cX0_compare 12 = .ok (.iconst 0, 1) := by decide +kernel
theorem dX0_compare_13 : decode cX0_compare 13 = .ok (.istore_n 2, 1) := by decide +kernel
theorem dX0_compare_14 : decode cX0_compare 14 = .ok (.iload_n 2, 1) := by decide +kernel
theorem dX0_compare_15 : decode cX0_compare 15 = .ok (.iload_n 1, 1) := by decide +kernel
theorem dX0_compare_16 : decode cX0_compare 16 = .ok (.if_icmp .ge 40, 3) := by decide +kernel
theorem dX0_compare_19 : decode cX0_compare 19 = .ok (.aload_n 0, 1) := by decide +kernel
theorem dX0_compare_20 : decode cX0_compare 20 = .ok (.getfield 9, 3) := by decide +kernel
theorem dX0_compare_23 : decode cX0_compare 23 = .ok (.iload_n 2, 1) := by decide +kernel
theorem dX0_compare_24 : decode cX0_compare 24 = .ok (.iaload, 1) := by decide +kernel
theorem dX0_compare_25 : decode cX0_compare 25 = .ok (.aload_n 0, 1) := by decide +kernel
theorem dX0_compare_26 : decode cX0_compare 26 = .ok (.getfield 13, 3) := by decide +kernel
theorem dX0_compare_29 : decode cX0_compare 29 = .ok (.iload_n 2, 1) := by decide +kernel
theorem dX0_compare_30 : decode cX0_compare 30 = .ok (.iaload, 1) := by decide +kernel
theorem dX0_compare_31 : decode cX0_compare 31 = .ok (.if_icmp .eq 19, 3) := by decide +kernel
theorem dX0_compare_34 : decode cX0_compare 34 = .ok (.aload_n 0, 1) := by decide +kernel
theorem dX0_compare_35 : decode cX0_compare 35 = .ok (.getfield 9, 3) := by decide +kernel
theorem dX0_compare_38 : decode cX0_compare 38 = .ok (.iload_n 2, 1) := by decide +kernel
theorem dX0_compare_39 : decode cX0_compare 39 = .ok (.iaload, 1) := by decide +kernel
theorem dX0_compare_40 : decode cX0_compare 40 = .ok (.aload_n 0, 1) := by decide +kernel
theorem dX0_compare_41 : decode cX0_compare 41 = .ok (.getfield 13, 3) := by decide +kernel
theorem dX0_compare_44 : decode cX0_compare 44 = .ok (.iload_n 2, 1) := by decide +kernel
theorem dX0_compare_45 : decode cX0_compare 45 = .ok (.iaload, 1) := by decide +kernel
theorem dX0_compare_46 : decode cX0_compare 46 = .ok (.invokestatic 79, 3) := by decide +kernel
theorem dX0_compare_49 : decode cX0_compare 49 = .ok (.ireturn, 1) := by decide +kernel
theorem dX0_compare_50 : decode cX0_compare 50 = .ok (.iinc 2 1, 3) := by decide +kernel
theorem dX0_compare_53 : decode cX0_compare 53 = .ok (.goto (-39), 3) := by decide +kernel
theorem dX0_compare_56 : decode cX0_compare 56 = .ok (.aload_n 0, 1) := by decide +kernel
theorem dX0_compare_57 : decode cX0_compare 57 = .ok (.getfield 16, 3) := by decide +kernel
theorem dX0_compare_60 : decode cX0_compare 60 = .ok (.aload_n 0, 1) := by decide +kernel
theorem dX0_compare_61 : decode cX0_compare 61 = .ok (.getfield 20, 3) := by decide +kernel
theorem dX0_compare_64 : decode cX0_compare 64 = .ok (.invokestatic 79, 3) := by decide +kernel
theorem dX0_compare_67 : decode cX0_compare 67 = .ok (.ireturn, 1) := by decide +kernel
theorem dX0_order_0 : decode cX0_order 0 = .ok (.iload_n 0, 1) := by decide +kernel
theorem dX0_order_1 : decode cX0_order 1 = .ok (.iload_n 1, 1) := by decide +kernel
theorem dX0_order_2 : decode cX0_order 2 = .ok (.if_icmp .ne 5, 3) := by decide +kernel
theorem dX0_order_5 : decode cX0_order 5 = .ok (.iconst 0, 1) := by decide +kernel
theorem dX0_order_6 : decode cX0_order 6 = .ok (.ireturn, 1) := by decide +kernel
theorem dX0_order_7 : decode cX0_order 7 = .ok (.iload_n 0, 1) := by decide +kernel
theorem dX0_order_8 : decode cX0_order 8 = .ok (.iload_n 1, 1) := by decide +kernel
theorem dX0_order_9 : decode cX0_order 9 = .ok (.if_icmp .ge 7, 3) := by decide +kernel
theorem dX0_order_12 : decode cX0_order 12 = .ok (.iconst (-1), 1) := by decide +kernel
theorem dX0_order_13 : decode cX0_order 13 = .ok (.goto 4, 3) := by decide +kernel
theorem dX0_order_16 : decode cX0_order 16 = .ok (.iconst 1, 1) := by decide +kernel
theorem dX0_order_17 : decode cX0_order 17 = .ok (.ireturn, 1) := by decide +kernel
theorem dX0_isSign_0 : decode cX0_isSign 0 = .ok (.lload_n 0, 1) := by decide +kernel
theorem dX0_isSign_1 : decode cX0_isSign 1 = .ok (.lconst 0, 1) := by decide +kernel
theorem dX0_isSign_2 : decode cX0_isSign 2 = .ok (.lcmp, 1) := by decide +kernel
theorem dX0_isSign_3 : decode cX0_isSign 3 = .ok (.ifCond .lt 31, 3) := by decide +kernel
theorem dX0_isSign_6 : decode cX0_isSign 6 = .ok (.lload_n 0, 1) := by decide +kernel
theorem dX0_isSign_7 : decode cX0_isSign 7 = .ok (.ldc2_w 82, 3) := by decide +kernel
theorem dX0_isSign_10 : decode cX0_isSign 10 = .ok (.lcmp, 1) := by decide +kernel
theorem dX0_isSign_11 : decode cX0_isSign 11 = .ok (.ifCond .ge 23, 3) := by decide +kernel
theorem dX0_isSign_14 : decode cX0_isSign 14 = .ok (.lload_n 0, 1) := by decide +kernel
theorem dX0_isSign_15 : decode cX0_isSign 15 = .ok (.ldc2_w 84, 3) := by decide +kernel
theorem dX0_isSign_18 : decode cX0_isSign 18 = .ok (.lcmp, 1) := by decide +kernel
theorem dX0_isSign_19 : decode cX0_isSign 19 = .ok (.ifCond .lt 11, 3) := by decide +kernel
theorem dX0_isSign_22 : decode cX0_isSign 22 = .ok (.lload_n 0, 1) := by decide +kernel
theorem dX0_isSign_23 : decode cX0_isSign 23 = .ok (.ldc2_w 86, 3) := by decide +kernel
theorem dX0_isSign_26 : decode cX0_isSign 26 = .ok (.lcmp, 1) := by decide +kernel
theorem dX0_isSign_27 : decode cX0_isSign 27 = .ok (.ifCond .le 7, 3) := by decide +kernel
theorem dX0_isSign_30 : decode cX0_isSign 30 = .ok (.iconst 1, 1) := by decide +kernel
theorem dX0_isSign_31 : decode cX0_isSign 31 = .ok (.goto 4, 3) := by decide +kernel
theorem dX0_isSign_34 : decode cX0_isSign 34 = .ok (.iconst 0, 1) := by decide +kernel
theorem dX0_isSign_35 : decode cX0_isSign 35 = .ok (.ireturn, 1) := by decide +kernel
theorem dX0_isPlace_0 : decode cX0_isPlace 0 = .ok (.iload_n 1, 1) := by decide +kernel
theorem dX0_isPlace_1 : decode cX0_isPlace 1 = .ok (.ifCond .lt 15, 3) := by decide +kernel
theorem dX0_isPlace_4 : decode cX0_isPlace 4 = .ok (.iload_n 1, 1) := by decide +kernel
theorem dX0_isPlace_5 : decode cX0_isPlace 5 = .ok (.aload_n 0, 1) := by decide +kernel
theorem dX0_isPlace_6 : decode cX0_isPlace 6 = .ok (.getfield 16, 3) := by decide +kernel
theorem dX0_isPlace_9 : decode cX0_isPlace 9 = .ok (.if_icmp .ge 7, 3) := by decide +kernel
theorem dX0_isPlace_12 : decode cX0_isPlace 12 = .ok (.iconst 1, 1) := by decide +kernel
theorem dX0_isPlace_13 : decode cX0_isPlace 13 = .ok (.goto 4, 3) := by decide +kernel
theorem dX0_isPlace_16 : decode cX0_isPlace 16 = .ok (.iconst 0, 1) := by decide +kernel
theorem dX0_isPlace_17 : decode cX0_isPlace 17 = .ok (.ireturn, 1) := by decide +kernel
theorem dX0_isPlaceOrEnd_0 : decode cX0_isPlaceOrEnd 0 = .ok (.iload_n 1, 1) := by decide +kernel
theorem dX0_isPlaceOrEnd_1 : decode cX0_isPlaceOrEnd 1 = .ok (.ifCond .lt 15, 3) := by decide +kernel
theorem dX0_isPlaceOrEnd_4 : decode cX0_isPlaceOrEnd 4 = .ok (.iload_n 1, 1) := by decide +kernel
theorem dX0_isPlaceOrEnd_5 : decode cX0_isPlaceOrEnd 5 = .ok (.aload_n 0, 1) := by decide +kernel
theorem dX0_isPlaceOrEnd_6 : decode cX0_isPlaceOrEnd 6 = .ok (.getfield 16, 3) := by decide +kernel
theorem dX0_isPlaceOrEnd_9 : decode cX0_isPlaceOrEnd 9 = .ok (.if_icmp .gt 7, 3) := by decide +kernel
theorem dX0_isPlaceOrEnd_12 : decode cX0_isPlaceOrEnd 12 = .ok (.iconst 1, 1) := by decide +kernel
theorem dX0_isPlaceOrEnd_13 : decode cX0_isPlaceOrEnd 13 = .ok (.goto 4, 3) := by decide +kernel
theorem dX0_isPlaceOrEnd_16 : decode cX0_isPlaceOrEnd 16 = .ok (.iconst 0, 1) := by decide +kernel
theorem dX0_isPlaceOrEnd_17 : decode cX0_isPlaceOrEnd 17 = .ok (.ireturn, 1) := by decide +kernel
theorem dX0_hasRoom_0 : decode cX0_hasRoom 0 = .ok (.aload_n 0, 1) := by decide +kernel
theorem dX0_hasRoom_1 : decode cX0_hasRoom 1 = .ok (.getfield 16, 3) := by decide +kernel
theorem dX0_hasRoom_4 : decode cX0_hasRoom 4 = .ok (.iload_n 1, 1) := by decide +kernel
theorem dX0_hasRoom_5 : decode cX0_hasRoom 5 = .ok (.iadd, 1) := by decide +kernel
theorem dX0_hasRoom_6 : decode cX0_hasRoom 6 = .ok (.sipush 3000, 3) := by decide +kernel
theorem dX0_hasRoom_9 : decode cX0_hasRoom 9 = .ok (.if_icmp .gt 7, 3) := by decide +kernel
theorem dX0_hasRoom_12 : decode cX0_hasRoom 12 = .ok (.iconst 1, 1) := by decide +kernel
theorem dX0_hasRoom_13 : decode cX0_hasRoom 13 = .ok (.goto 4, 3) := by decide +kernel
theorem dX0_hasRoom_16 : decode cX0_hasRoom 16 = .ok (.iconst 0, 1) := by decide +kernel
theorem dX0_hasRoom_17 : decode cX0_hasRoom 17 = .ok (.ireturn, 1) := by decide +kernel
theorem dX0_makeGap_0 : decode cX0_makeGap 0 = .ok (.aload_n 0, 1) := by decide +kernel
theorem dX0_makeGap_1 : decode cX0_makeGap 1 = .ok (.getfield 9, 3) := by decide +kernel
theorem dX0_makeGap_4 : decode cX0_makeGap 4 = .ok (.iload_n 2, 1) := by decide +kernel
theorem dX0_makeGap_5 : decode cX0_makeGap 5 = .ok (.aload_n 0, 1) := by decide +kernel
theorem dX0_makeGap_6 : decode cX0_makeGap 6 = .ok (.getfield 9, 3) := by decide +kernel
theorem dX0_makeGap_9 : decode cX0_makeGap 9 = .ok (.iload_n 1, 1) := by decide +kernel
theorem dX0_makeGap_10 : decode cX0_makeGap 10 = .ok (.iload_n 3, 1) := by decide +kernel
theorem dX0_makeGap_11 : decode cX0_makeGap 11 = .ok (.iadd, 1) := by decide +kernel
theorem dX0_makeGap_12 : decode cX0_makeGap 12 = .ok (.aload_n 0, 1) := by decide +kernel
theorem dX0_makeGap_13 : decode cX0_makeGap 13 = .ok (.getfield 16, 3) := by decide +kernel
theorem dX0_makeGap_16 : decode cX0_makeGap 16 = .ok (.iload_n 2, 1) := by decide +kernel
theorem dX0_makeGap_17 : decode cX0_makeGap 17 = .ok (.isub, 1) := by decide +kernel
theorem dX0_makeGap_18 : decode cX0_makeGap 18 = .ok (.invokestatic 69, 3) := by decide +kernel
theorem dX0_makeGap_21 : decode cX0_makeGap 21 = .ok (.aload_n 0, 1) := by decide +kernel
theorem dX0_makeGap_22 : decode cX0_makeGap 22 = .ok (.aload_n 0, 1) := by decide +kernel
theorem dX0_makeGap_23 : decode cX0_makeGap 23 = .ok (.getfield 16, 3) := by decide +kernel
theorem dX0_makeGap_26 : decode cX0_makeGap 26 = .ok (.iload_n 2, 1) := by decide +kernel
theorem dX0_makeGap_27 : decode cX0_makeGap 27 = .ok (.iload_n 1, 1) := by decide +kernel
theorem dX0_makeGap_28 : decode cX0_makeGap 28 = .ok (.isub, 1) := by decide +kernel
theorem dX0_makeGap_29 : decode cX0_makeGap 29 = .ok (.isub, 1) := by decide +kernel
theorem dX0_makeGap_30 : decode cX0_makeGap 30 = .ok (.iload_n 3, 1) := by decide +kernel
theorem dX0_makeGap_31 : decode cX0_makeGap 31 = .ok (.iadd, 1) := by decide +kernel
theorem dX0_makeGap_32 : decode cX0_makeGap 32 = .ok (.putfield 16, 3) := by decide +kernel
theorem dX0_makeGap_35 : decode cX0_makeGap 35 = .ok (.return_, 1) := by decide +kernel
theorem dX0_putScrap_0 : decode cX0_putScrap 0 = .ok (.aload_n 0, 1) := by decide +kernel
theorem dX0_putScrap_1 : decode cX0_putScrap 1 = .ok (.aload_n 0, 1) := by decide +kernel
theorem dX0_putScrap_2 : decode cX0_putScrap 2 = .ok (.getfield 20, 3) := by decide +kernel
theorem dX0_putScrap_5 : decode cX0_putScrap 5 = .ok (.iload_n 2, 1) := by decide +kernel
theorem dX0_putScrap_6 : decode cX0_putScrap 6 = .ok (.iload_n 1, 1) := by decide +kernel
theorem dX0_putScrap_7 : decode cX0_putScrap 7 = .ok (.isub, 1) := by decide +kernel
theorem dX0_putScrap_8 : decode cX0_putScrap 8 = .ok (.isub, 1) := by decide +kernel
theorem dX0_putScrap_9 : decode cX0_putScrap 9 = .ok (.invokevirtual 88, 3) := by decide +kernel
theorem dX0_putScrap_12 : decode cX0_putScrap 12 = .ok (.ifCond .ne 6, 3) := by decide +kernel
theorem dX0_putScrap_15 : decode cX0_putScrap 15 = .ok (.bipush (-3), 2) := by decide +kernel
theorem dX0_putScrap_17 : decode cX0_putScrap 17 = .ok (.ireturn, 1) := by decide +kernel
theorem dX0_putScrap_18 : decode cX0_putScrap 18 = .ok (.aload_n 0, 1) := by decide +kernel
theorem dX0_putScrap_19 : decode cX0_putScrap 19 = .ok (.iload_n 1, 1) := by decide +kernel
theorem dX0_putScrap_20 : decode cX0_putScrap 20 = .ok (.iload_n 2, 1) := by decide +kernel
theorem dX0_putScrap_21 : decode cX0_putScrap 21 = .ok (.aload_n 0, 1) := by decide +kernel
theorem dX0_putScrap_22 : decode cX0_putScrap 22 = .ok (.getfield 20, 3) := by decide +kernel
theorem dX0_putScrap_25 : decode cX0_putScrap 25 = .ok (.invokevirtual 55, 3) := by decide +kernel
theorem dX0_putScrap_28 : decode cX0_putScrap 28 = .ok (.aload_n 0, 1) := by decide +kernel
theorem dX0_putScrap_29 : decode cX0_putScrap 29 = .ok (.getfield 13, 3) := by decide +kernel
theorem dX0_putScrap_32 : decode cX0_putScrap 32 = .ok (.iconst 0, 1) := by decide +kernel
theorem dX0_putScrap_33 : decode cX0_putScrap 33 = .ok (.aload_n 0, 1) := by decide +kernel
theorem dX0_putScrap_34 : decode cX0_putScrap 34 = .ok (.getfield 9, 3) := by decide +kernel
theorem dX0_putScrap_37 : decode cX0_putScrap 37 = .ok (.iload_n 1, 1) := by decide +kernel
theorem dX0_putScrap_38 : decode cX0_putScrap 38 = .ok (.aload_n 0, 1) := by decide +kernel
theorem dX0_putScrap_39 : decode cX0_putScrap 39 = .ok (.getfield 20, 3) := by decide +kernel
theorem dX0_putScrap_42 : decode cX0_putScrap 42 = .ok (.invokestatic 69, 3) := by decide +kernel
theorem dX0_putScrap_45 : decode cX0_putScrap 45 = .ok (.aload_n 0, 1) := by decide +kernel
theorem dX0_putScrap_46 : decode cX0_putScrap 46 = .ok (.getfield 16, 3) := by decide +kernel
theorem dX0_putScrap_49 : decode cX0_putScrap 49 = .ok (.ireturn, 1) := by decide +kernel
theorem dX0_putSign_0 : decode cX0_putSign 0 = .ok (.aload_n 0, 1) := by decide +kernel
theorem dX0_putSign_1 : decode cX0_putSign 1 = .ok (.iconst 1, 1) := by decide +kernel
theorem dX0_putSign_2 : decode cX0_putSign 2 = .ok (.invokevirtual 88, 3) := by decide +kernel
theorem dX0_putSign_5 : decode cX0_putSign 5 = .ok (.ifCond .ne 6, 3) := by decide +kernel
theorem dX0_putSign_8 : decode cX0_putSign 8 = .ok (.bipush (-3), 2) := by decide +kernel
theorem dX0_putSign_10 : decode cX0_putSign 10 = .ok (.ireturn, 1) := by decide +kernel
theorem dX0_putSign_11 : decode cX0_putSign 11 = .ok (.aload_n 0, 1) := by decide +kernel
theorem dX0_putSign_12 : decode cX0_putSign 12 = .ok (.iload_n 1, 1) := by decide +kernel
theorem dX0_putSign_13 : decode cX0_putSign 13 = .ok (.iload_n 1, 1) := by decide +kernel
theorem dX0_putSign_14 : decode cX0_putSign 14 = .ok (.iconst 1, 1) := by decide +kernel
theorem dX0_putSign_15 : decode cX0_putSign 15 = .ok (.invokevirtual 55, 3) := by decide +kernel
theorem dX0_putSign_18 : decode cX0_putSign 18 = .ok (.aload_n 0, 1) := by decide +kernel
theorem dX0_putSign_19 : decode cX0_putSign 19 = .ok (.getfield 9, 3) := by decide +kernel
theorem dX0_putSign_22 : decode cX0_putSign 22 = .ok (.iload_n 1, 1) := by decide +kernel
theorem dX0_putSign_23 : decode cX0_putSign 23 = .ok (.iload_n 2, 1) := by decide +kernel
theorem dX0_putSign_24 : decode cX0_putSign 24 = .ok (.iastore, 1) := by decide +kernel
theorem dX0_putSign_25 : decode cX0_putSign 25 = .ok (.aload_n 0, 1) := by decide +kernel
theorem dX0_putSign_26 : decode cX0_putSign 26 = .ok (.getfield 16, 3) := by decide +kernel
theorem dX0_putSign_29 : decode cX0_putSign 29 = .ok (.ireturn, 1) := by decide +kernel
theorem dX0_putWord_0 : decode cX0_putWord 0 = .ok (.aload_n 2, 1) := by decide +kernel
theorem dX0_putWord_1 : decode cX0_putWord 1 = .ok (.invokevirtual 91, 3) := by decide +kernel
theorem dX0_putWord_4 : decode cX0_putWord 4 = .ok (.istore_n 3, 1) := by decide +kernel
theorem dX0_putWord_5 : decode cX0_putWord 5 = .ok (.aload_n 0, 1) := by decide +kernel
theorem dX0_putWord_6 : decode cX0_putWord 6 = .ok (.iload_n 3, 1) := by decide +kernel
theorem dX0_putWord_7 : decode cX0_putWord 7 = .ok (.invokevirtual 88, 3) := by decide +kernel
theorem dX0_putWord_10 : decode cX0_putWord 10 = .ok (.ifCond .ne 6, 3) := by decide +kernel
theorem dX0_putWord_13 : decode cX0_putWord 13 = .ok (.bipush (-3), 2) := by decide +kernel
theorem dX0_putWord_15 : decode cX0_putWord 15 = .ok (.ireturn, 1) := by decide +kernel
theorem dX0_putWord_16 : decode cX0_putWord 16 = .ok (.aload_n 0, 1) := by decide +kernel
theorem dX0_putWord_17 : decode cX0_putWord 17 = .ok (.iload_n 1, 1) := by decide +kernel
theorem dX0_putWord_18 : decode cX0_putWord 18 = .ok (.iload_n 1, 1) := by decide +kernel
theorem dX0_putWord_19 : decode cX0_putWord 19 = .ok (.iload_n 3, 1) := by decide +kernel
theorem dX0_putWord_20 : decode cX0_putWord 20 = .ok (.invokevirtual 55, 3) := by decide +kernel
theorem dX0_putWord_23 : decode cX0_putWord 23 = .ok (.iconst 0, 1) := by decide +kernel
theorem dX0_putWord_24 : decode cX0_putWord 24 = .ok (.istore 4, 2) := by decide +kernel
theorem dX0_putWord_26 : decode cX0_putWord 26 = .ok (.iload 4, 2) := by decide +kernel
theorem dX0_putWord_28 : decode cX0_putWord 28 = .ok (.iload_n 3, 1) := by decide +kernel
theorem dX0_putWord_29 : decode cX0_putWord 29 = .ok (.if_icmp .ge 24, 3) := by decide +kernel
theorem dX0_putWord_32 : decode cX0_putWord 32 = .ok (.aload_n 0, 1) := by decide +kernel
theorem dX0_putWord_33 : decode cX0_putWord 33 = .ok (.getfield 9, 3) := by decide +kernel
theorem dX0_putWord_36 : decode cX0_putWord 36 = .ok (.iload_n 1, 1) := by decide +kernel
theorem dX0_putWord_37 : decode cX0_putWord 37 = .ok (.iload 4, 2) := by decide +kernel
theorem dX0_putWord_39 : decode cX0_putWord 39 = .ok (.iadd, 1) := by decide +kernel
theorem dX0_putWord_40 : decode cX0_putWord 40 = .ok (.aload_n 2, 1) := by decide +kernel
theorem dX0_putWord_41 : decode cX0_putWord 41 = .ok (.iload 4, 2) := by decide +kernel
theorem dX0_putWord_43 : decode cX0_putWord 43 = .ok (.invokevirtual 96, 3) := by decide +kernel
theorem dX0_putWord_46 : decode cX0_putWord 46 = .ok (.iastore, 1) := by decide +kernel
theorem dX0_putWord_47 : decode cX0_putWord 47 = .ok (.iinc 4 1, 3) := by decide +kernel
theorem dX0_putWord_50 : decode cX0_putWord 50 = .ok (.goto (-24), 3) := by decide +kernel
theorem dX0_putWord_53 : decode cX0_putWord 53 = .ok (.aload_n 0, 1) := by decide +kernel
theorem dX0_putWord_54 : decode cX0_putWord 54 = .ok (.getfield 16, 3) := by decide +kernel
theorem dX0_putWord_57 : decode cX0_putWord 57 = .ok (.ireturn, 1) := by decide +kernel
theorem dX0_putDigits_0 : decode cX0_putDigits 0 = .ok (.lload_n 2, 1) := by decide +kernel
theorem dX0_putDigits_1 : decode cX0_putDigits 1 = .ok (.lconst 0, 1) := by decide +kernel
theorem dX0_putDigits_2 : decode cX0_putDigits 2 = .ok (.lcmp, 1) := by decide +kernel
theorem dX0_putDigits_3 : decode cX0_putDigits 3 = .ok (.ifCond .ge 7, 3) := by decide +kernel
theorem dX0_putDigits_6 : decode cX0_putDigits 6 = .ok (.iconst 1, 1) := by decide +kernel
theorem dX0_putDigits_7 : decode cX0_putDigits 7 = .ok (.goto 4, 3) := by decide +kernel
theorem dX0_putDigits_10 : decode cX0_putDigits 10 = .ok (.iconst 0, 1) := by decide +kernel
theorem dX0_putDigits_11 : decode cX0_putDigits 11 = .ok (.istore 4, 2) := by decide +kernel
theorem dX0_putDigits_13 : decode cX0_putDigits 13 = .ok (.iload 4, 2) := by decide +kernel
theorem dX0_putDigits_15 : decode cX0_putDigits 15 = .ok (.lload_n 2, 1) := by decide +kernel
theorem dX0_putDigits_16 : decode cX0_putDigits 16 = .ok (.invokestatic 100, 3) := by decide +kernel
theorem dX0_putDigits_19 : decode cX0_putDigits 19 = .ok (.iadd, 1) := by decide +kernel
theorem dX0_putDigits_20 : decode cX0_putDigits 20 = .ok (.istore 5, 2) := by decide +kernel
theorem dX0_putDigits_22 : decode cX0_putDigits 22 = .ok (.aload_n 0, 1) := by decide +kernel
theorem dX0_putDigits_23 : decode cX0_putDigits 23 = .ok (.iload 5, 2) := by decide +kernel
theorem dX0_putDigits_25 : decode cX0_putDigits 25 = .ok (.invokevirtual 88, 3) := by decide +kernel
theorem dX0_putDigits_28 : decode cX0_putDigits 28 = .ok (.ifCond .ne 6, 3) := by decide +kernel
theorem dX0_putDigits_31 : decode cX0_putDigits 31 = .ok (.bipush (-3), 2) := by decide +kernel
theorem dX0_putDigits_33 : decode cX0_putDigits 33 = .ok (.ireturn, 1) := by decide +kernel
theorem dX0_putDigits_34 : decode cX0_putDigits 34 = .ok (.aload_n 0, 1) := by decide +kernel
theorem dX0_putDigits_35 : decode cX0_putDigits 35 = .ok (.iload_n 1, 1) := by decide +kernel
theorem dX0_putDigits_36 : decode cX0_putDigits 36 = .ok (.iload_n 1, 1) := by decide +kernel
theorem dX0_putDigits_37 : decode cX0_putDigits 37 = .ok (.iload 5, 2) := by decide +kernel
theorem dX0_putDigits_39 : decode cX0_putDigits 39 = .ok (.invokevirtual 55, 3) := by decide +kernel
theorem dX0_putDigits_42 : decode cX0_putDigits 42 = .ok (.iload 4, 2) := by decide +kernel
theorem dX0_putDigits_44 : decode cX0_putDigits 44 = .ok (.iconst 1, 1) := by decide +kernel
theorem dX0_putDigits_45 : decode cX0_putDigits 45 = .ok (.if_icmp .ne 11, 3) := by decide +kernel
theorem dX0_putDigits_48 : decode cX0_putDigits 48 = .ok (.aload_n 0, 1) := by decide +kernel
theorem dX0_putDigits_49 : decode cX0_putDigits 49 = .ok (.getfield 9, 3) := by decide +kernel
theorem dX0_putDigits_52 : decode cX0_putDigits 52 = .ok (.iload_n 1, 1) := by decide +kernel
theorem dX0_putDigits_53 : decode cX0_putDigits 53 = .ok (.bipush 45, 2) := by decide +kernel
theorem dX0_putDigits_55 : decode cX0_putDigits 55 = .ok (.iastore, 1) := by decide +kernel
theorem dX0_putDigits_56 : decode cX0_putDigits 56 = .ok (.lload_n 2, 1) := by decide +kernel
theorem dX0_putDigits_57 : decode cX0_putDigits 57 = .ok (.lstore 6, 2) := by decide +kernel
theorem dX0_putDigits_59 : decode cX0_putDigits 59 = .ok (.iload 5, 2) := by decide +kernel
theorem dX0_putDigits_61 : decode cX0_putDigits 61 = .ok (.iconst 1, 1) := by decide +kernel
theorem dX0_putDigits_62 : decode cX0_putDigits 62 = .ok (.isub, 1) := by decide +kernel
theorem dX0_putDigits_63 : decode cX0_putDigits 63 = .ok (.istore 8, 2) := by decide +kernel
theorem dX0_putDigits_65 : decode cX0_putDigits 65 = .ok (.iload 8, 2) := by decide +kernel
theorem dX0_putDigits_67 : decode cX0_putDigits 67 = .ok (.iload 4, 2) := by decide +kernel
theorem dX0_putDigits_69 : decode cX0_putDigits 69 = .ok (.if_icmp .lt 39, 3) := by decide +kernel
theorem dX0_putDigits_72 : decode cX0_putDigits 72 = .ok (.aload_n 0, 1) := by decide +kernel
theorem dX0_putDigits_73 : decode cX0_putDigits 73 = .ok (.getfield 9, 3) := by decide +kernel
theorem dX0_putDigits_76 : decode cX0_putDigits 76 = .ok (.iload_n 1, 1) := by decide +kernel
theorem dX0_putDigits_77 : decode cX0_putDigits 77 = .ok (.iload 8, 2) := by decide +kernel
theorem dX0_putDigits_79 : decode cX0_putDigits 79 = .ok (.iadd, 1) := by decide +kernel
theorem dX0_putDigits_80 : decode cX0_putDigits 80 = .ok (.bipush 48, 2) := by decide +kernel
theorem dX0_putDigits_82 : decode cX0_putDigits 82 = .ok (.lload 6, 2) := by decide +kernel
theorem dX0_putDigits_84 : decode cX0_putDigits 84 = .ok (.ldc2_w 104, 3) := by decide +kernel
theorem dX0_putDigits_87 : decode cX0_putDigits 87 = .ok (.lrem, 1) := by decide +kernel
theorem dX0_putDigits_88 : decode cX0_putDigits 88 = .ok (.l2i, 1) := by decide +kernel
theorem dX0_putDigits_89 : decode cX0_putDigits 89 = .ok (.invokestatic 106, 3) := by decide +kernel
theorem dX0_putDigits_92 : decode cX0_putDigits 92 = .ok (.iadd, 1) := by decide +kernel
theorem dX0_putDigits_93 : decode cX0_putDigits 93 = .ok (.iastore, 1) := by decide +kernel
theorem dX0_putDigits_94 : decode cX0_putDigits 94 = .ok (.lload 6, 2) := by decide +kernel
theorem dX0_putDigits_96 : decode cX0_putDigits 96 = .ok (.ldc2_w 104, 3) := by decide +kernel
theorem dX0_putDigits_99 : decode cX0_putDigits 99 = .ok (.ldiv, 1) := by decide +kernel
theorem dX0_putDigits_100 : decode cX0_putDigits 100 = .ok (.lstore 6, 2) := by decide +kernel
theorem dX0_putDigits_102 : decode cX0_putDigits 102 = .ok (.iinc 8 (-1), 3) := by decide +kernel
theorem dX0_putDigits_105 : decode cX0_putDigits 105 = .ok (.goto (-40), 3) := by decide +kernel
theorem dX0_putDigits_108 : decode cX0_putDigits 108 = .ok (.aload_n 0, 1) := by decide +kernel
theorem dX0_putDigits_109 : decode cX0_putDigits 109 = .ok (.getfield 16, 3) := by decide +kernel
theorem dX0_putDigits_112 : decode cX0_putDigits 112 = .ok (.ireturn, 1) := by decide +kernel
theorem dX0_countDigits_0 : decode cX0_countDigits 0 = .ok (.iconst 1, 1) := by decide +kernel
theorem dX0_countDigits_1 : decode cX0_countDigits 1 = .ok (.istore_n 2, 1) := by decide +kernel
theorem dX0_countDigits_2 : decode cX0_countDigits 2 = .ok (.lload_n 0, 1) := by decide +kernel
theorem dX0_countDigits_3 : decode cX0_countDigits 3 = .ok (.ldc2_w 104, 3) := by decide +kernel
theorem dX0_countDigits_6 : decode cX0_countDigits 6 = .ok (.ldiv, 1) := by decide +kernel
theorem dX0_countDigits_7 : decode cX0_countDigits 7 = .ok (.lstore_n 3, 1) := by decide +kernel
theorem dX0_countDigits_8 : decode cX0_countDigits 8 = .ok (.lload_n 3, 1) := by decide +kernel
theorem dX0_countDigits_9 : decode cX0_countDigits 9 = .ok (.lconst 0, 1) := by decide +kernel
theorem dX0_countDigits_10 : decode cX0_countDigits 10 = .ok (.lcmp, 1) := by decide +kernel
theorem dX0_countDigits_11 : decode cX0_countDigits 11 = .ok (.ifCond .eq 21, 3) := by decide +kernel
theorem dX0_countDigits_14 : decode cX0_countDigits 14 = .ok (.iload_n 2, 1) := by decide +kernel
theorem dX0_countDigits_15 : decode cX0_countDigits 15 = .ok (.bipush 19, 2) := by decide +kernel
theorem dX0_countDigits_17 : decode cX0_countDigits 17 = .ok (.if_icmp .ge 15, 3) := by decide +kernel
theorem dX0_countDigits_20 : decode cX0_countDigits 20 = .ok (.iinc 2 1, 3) := by decide +kernel
theorem dX0_countDigits_23 : decode cX0_countDigits 23 = .ok (.lload_n 3, 1) := by decide +kernel
theorem dX0_countDigits_24 : decode cX0_countDigits 24 = .ok (.ldc2_w 104, 3) := by decide +kernel
theorem dX0_countDigits_27 : decode cX0_countDigits 27 = .ok (.ldiv, 1) := by decide +kernel
theorem dX0_countDigits_28 : decode cX0_countDigits 28 = .ok (.lstore_n 3, 1) := by decide +kernel
theorem dX0_countDigits_29 : decode cX0_countDigits 29 = .ok (.goto (-21), 3) := by decide +kernel
theorem dX0_countDigits_32 : decode cX0_countDigits 32 = .ok (.iload_n 2, 1) := by decide +kernel
theorem dX0_countDigits_33 : decode cX0_countDigits 33 = .ok (.ireturn, 1) := by decide +kernel
theorem dX0_findForward_0 : decode cX0_findForward 0 = .ok (.aload_n 0, 1) := by decide +kernel
theorem dX0_findForward_1 : decode cX0_findForward 1 = .ok (.getfield 16, 3) := by decide +kernel
theorem dX0_findForward_4 : decode cX0_findForward 4 = .ok (.aload_n 0, 1) := by decide +kernel
theorem dX0_findForward_5 : decode cX0_findForward 5 = .ok (.getfield 20, 3) := by decide +kernel
theorem dX0_findForward_8 : decode cX0_findForward 8 = .ok (.isub, 1) := by decide +kernel
theorem dX0_findForward_9 : decode cX0_findForward 9 = .ok (.istore_n 2, 1) := by decide +kernel
theorem dX0_findForward_10 : decode cX0_findForward 10 = .ok (.iload_n 1, 1) := by decide +kernel
theorem dX0_findForward_11 : decode cX0_findForward 11 = .ok (.iconst 0, 1) := by decide +kernel
theorem dX0_findForward_12 : decode cX0_findForward 12 = .ok (.invokestatic 109, 3) := by decide +kernel
theorem dX0_findForward_15 : decode cX0_findForward 15 = .ok (.aload_n 0, 1) := by decide +kernel
theorem dX0_findForward_16 : decode cX0_findForward 16 = .ok (.getfield 16, 3) := by decide +kernel
theorem dX0_findForward_19 : decode cX0_findForward 19 = .ok (.invokestatic 50, 3) := by decide +kernel
theorem dX0_findForward_22 : decode cX0_findForward 22 = .ok (.istore_n 3, 1) := by decide +kernel
theorem dX0_findForward_23 : decode cX0_findForward 23 = .ok (.iload_n 3, 1) := by decide +kernel
theorem dX0_findForward_24 : decode cX0_findForward 24 = .ok (.istore 4, 2) := by decide +kernel
theorem dX0_findForward_26 : decode cX0_findForward 26 = .ok (.iload 4, 2) := by decide +kernel
theorem dX0_findForward_28 : decode cX0_findForward 28 = .ok (.iload_n 2, 1) := by decide +kernel
theorem dX0_findForward_29 : decode cX0_findForward 29 = .ok (.if_icmp .gt 21, 3) := by decide +kernel
theorem dX0_findForward_32 : decode cX0_findForward 32 = .ok (.aload_n 0, 1) := by decide +kernel
theorem dX0_findForward_33 : decode cX0_findForward 33 = .ok (.iload 4, 2) := by decide +kernel
theorem dX0_findForward_35 : decode cX0_findForward 35 = .ok (.invokevirtual 112, 3) := by decide +kernel
theorem dX0_findForward_38 : decode cX0_findForward 38 = .ok (.ifCond .eq 6, 3) := by decide +kernel
theorem dX0_findForward_41 : decode cX0_findForward 41 = .ok (.iload 4, 2) := by decide +kernel
theorem dX0_findForward_43 : decode cX0_findForward 43 = .ok (.ireturn, 1) := by decide +kernel
theorem dX0_findForward_44 : decode cX0_findForward 44 = .ok (.iinc 4 1, 3) := by decide +kernel
theorem dX0_findForward_47 : decode cX0_findForward 47 = .ok (.goto (-21), 3) := by decide +kernel
theorem dX0_findForward_50 : decode cX0_findForward 50 = .ok (.iconst (-1), 1) := by decide +kernel
theorem dX0_findForward_51 : decode cX0_findForward 51 = .ok (.ireturn, 1) := by decide +kernel
theorem dX0_findBackward_0 : decode cX0_findBackward 0 = .ok (.iload_n 1, 1) := by decide +kernel
theorem dX0_findBackward_1 : decode cX0_findBackward 1 = .ok (.aload_n 0, 1) := by decide +kernel
theorem dX0_findBackward_2 : decode cX0_findBackward 2 = .ok (.getfield 16, 3) := by decide +kernel
theorem dX0_findBackward_5 : decode cX0_findBackward 5 = .ok (.aload_n 0, 1) := by decide +kernel
theorem dX0_findBackward_6 : decode cX0_findBackward 6 = .ok (.getfield 20, 3) := by decide +kernel
theorem dX0_findBackward_9 : decode cX0_findBackward 9 = .ok (.isub, 1) := by decide +kernel
theorem dX0_findBackward_10 : decode cX0_findBackward 10 = .ok (.invokestatic 50, 3) := by decide +kernel
theorem dX0_findBackward_13 : decode cX0_findBackward 13 = .ok (.istore_n 2, 1) := by decide +kernel
theorem dX0_findBackward_14 : decode cX0_findBackward 14 = .ok (.iload_n 2, 1) := by decide +kernel
theorem dX0_findBackward_15 : decode cX0_findBackward 15 = .ok (.istore_n 3, 1) := by decide +kernel
theorem dX0_findBackward_16 : decode cX0_findBackward 16 = .ok (.iload_n 3, 1) := by decide +kernel
theorem dX0_findBackward_17 : decode cX0_findBackward 17 = .ok (.ifCond .lt 19, 3) := by decide +kernel
theorem dX0_findBackward_20 : decode cX0_findBackward 20 = .ok (.aload_n 0, 1) := by decide +kernel
theorem dX0_findBackward_21 : decode cX0_findBackward 21 = .ok (.iload_n 3, 1) := by decide +kernel
theorem dX0_findBackward_22 : decode cX0_findBackward 22 = .ok (.invokevirtual 112, 3) := by decide +kernel
theorem dX0_findBackward_25 : decode cX0_findBackward 25 = .ok (.ifCond .eq 5, 3) := by decide +kernel
theorem dX0_findBackward_28 : decode cX0_findBackward 28 = .ok (.iload_n 3, 1) := by decide +kernel
theorem dX0_findBackward_29 : decode cX0_findBackward 29 = .ok (.ireturn, 1) := by decide +kernel
theorem dX0_findBackward_30 : decode cX0_findBackward 30 = .ok (.iinc 3 (-1), 3) := by decide +kernel
theorem dX0_findBackward_33 : decode cX0_findBackward 33 = .ok (.goto (-17), 3) := by decide +kernel
theorem dX0_findBackward_36 : decode cX0_findBackward 36 = .ok (.iconst (-1), 1) := by decide +kernel
theorem dX0_findBackward_37 : decode cX0_findBackward 37 = .ok (.ireturn, 1) := by decide +kernel
theorem dX0_scrapStandsAt_0 : decode cX0_scrapStandsAt 0 = .ok (.iconst 0, 1) := by decide +kernel
theorem dX0_scrapStandsAt_1 : decode cX0_scrapStandsAt 1 = .ok (.istore_n 2, 1) := by decide +kernel
theorem dX0_scrapStandsAt_2 : decode cX0_scrapStandsAt 2 = .ok (.iload_n 2, 1) := by decide +kernel
theorem dX0_scrapStandsAt_3 : decode cX0_scrapStandsAt 3 = .ok (.aload_n 0, 1) := by decide +kernel
theorem dX0_scrapStandsAt_4 : decode cX0_scrapStandsAt 4 = .ok (.getfield 20, 3) := by decide +kernel
theorem dX0_scrapStandsAt_7 : decode cX0_scrapStandsAt 7 = .ok (.if_icmp .ge 28, 3) := by decide +kernel
theorem dX0_scrapStandsAt_10 : decode cX0_scrapStandsAt 10 = .ok (.aload_n 0, 1) := by decide +kernel
theorem dX0_scrapStandsAt_11 : decode cX0_scrapStandsAt 11 = .ok (.getfield 9, 3) := by decide +kernel
theorem dX0_scrapStandsAt_14 : decode cX0_scrapStandsAt 14 = .ok (.iload_n 1, 1) := by decide +kernel
theorem dX0_scrapStandsAt_15 : decode cX0_scrapStandsAt 15 = .ok (.iload_n 2, 1) := by decide +kernel
theorem dX0_scrapStandsAt_16 : decode cX0_scrapStandsAt 16 = .ok (.iadd, 1) := by decide +kernel
theorem dX0_scrapStandsAt_17 : decode cX0_scrapStandsAt 17 = .ok (.iaload, 1) := by decide +kernel
theorem dX0_scrapStandsAt_18 : decode cX0_scrapStandsAt 18 = .ok (.aload_n 0, 1) := by decide +kernel
theorem dX0_scrapStandsAt_19 : decode cX0_scrapStandsAt 19 = .ok (.getfield 13, 3) := by decide +kernel
theorem dX0_scrapStandsAt_22 : decode cX0_scrapStandsAt 22 = .ok (.iload_n 2, 1) := by decide +kernel
theorem dX0_scrapStandsAt_23 : decode cX0_scrapStandsAt 23 = .ok (.iaload, 1) := by decide +kernel
theorem dX0_scrapStandsAt_24 : decode cX0_scrapStandsAt 24 = .ok (.if_icmp .eq 5, 3) := by decide +kernel
theorem dX0_scrapStandsAt_27 : decode cX0_scrapStandsAt 27 = .ok (.iconst 0, 1) := by decide +kernel
theorem dX0_scrapStandsAt_28 : decode cX0_scrapStandsAt 28 = .ok (.ireturn, 1) := by decide +kernel
theorem dX0_scrapStandsAt_29 : decode cX0_scrapStandsAt 29 = .ok (.iinc 2 1, 3) := by decide +kernel
theorem dX0_scrapStandsAt_32 : decode cX0_scrapStandsAt 32 = .ok (.goto (-30), 3) := by decide +kernel
theorem dX0_scrapStandsAt_35 : decode cX0_scrapStandsAt 35 = .ok (.iconst 1, 1) := by decide +kernel
theorem dX0_scrapStandsAt_36 : decode cX0_scrapStandsAt 36 = .ok (.ireturn, 1) := by decide +kernel
theorem dX0_sumOfText_0 : decode cX0_sumOfText 0 = .ok (.iconst 0, 1) := by decide +kernel
theorem dX0_sumOfText_1 : decode cX0_sumOfText 1 = .ok (.istore_n 1, 1) := by decide +kernel
theorem dX0_sumOfText_2 : decode cX0_sumOfText 2 = .ok (.iconst 0, 1) := by decide +kernel
theorem dX0_sumOfText_3 : decode cX0_sumOfText 3 = .ok (.istore_n 2, 1) := by decide +kernel
theorem dX0_sumOfText_4 : decode cX0_sumOfText 4 = .ok (.iload_n 2, 1) := by decide +kernel
theorem dX0_sumOfText_5 : decode cX0_sumOfText 5 = .ok (.aload_n 0, 1) := by decide +kernel
theorem dX0_sumOfText_6 : decode cX0_sumOfText 6 = .ok (.getfield 16, 3) := by decide +kernel
theorem dX0_sumOfText_9 : decode cX0_sumOfText 9 = .ok (.if_icmp .ge 22, 3) := by decide +kernel
theorem dX0_sumOfText_12 : decode cX0_sumOfText 12 = .ok (.iload_n 1, 1) := by decide +kernel
theorem dX0_sumOfText_13 : decode cX0_sumOfText 13 = .ok (.iload_n 2, 1) := by decide +kernel
theorem dX0_sumOfText_14 : decode cX0_sumOfText 14 = .ok (.iconst 1, 1) := by decide +kernel
theorem dX0_sumOfText_15 : decode cX0_sumOfText 15 = .ok (.iadd, 1) := by decide +kernel
theorem dX0_sumOfText_16 : decode cX0_sumOfText 16 = .ok (.aload_n 0, 1) := by decide +kernel
theorem dX0_sumOfText_17 : decode cX0_sumOfText 17 = .ok (.getfield 9, 3) := by decide +kernel
theorem dX0_sumOfText_20 : decode cX0_sumOfText 20 = .ok (.iload_n 2, 1) := by decide +kernel
theorem dX0_sumOfText_21 : decode cX0_sumOfText 21 = .ok (.iaload, 1) := by decide +kernel
theorem dX0_sumOfText_22 : decode cX0_sumOfText 22 = .ok (.imul, 1) := by decide +kernel
theorem dX0_sumOfText_23 : decode cX0_sumOfText 23 = .ok (.iadd, 1) := by decide +kernel
theorem dX0_sumOfText_24 : decode cX0_sumOfText 24 = .ok (.istore_n 1, 1) := by decide +kernel
theorem dX0_sumOfText_25 : decode cX0_sumOfText 25 = .ok (.iinc 2 1, 3) := by decide +kernel
theorem dX0_sumOfText_28 : decode cX0_sumOfText 28 = .ok (.goto (-24), 3) := by decide +kernel
theorem dX0_sumOfText_31 : decode cX0_sumOfText 31 = .ok (.iload_n 1, 1) := by decide +kernel
theorem dX0_sumOfText_32 : decode cX0_sumOfText 32 = .ok (.ireturn, 1) := by decide +kernel
theorem dJ9_abs_0f7a4_0 : decode cJ9_abs_0f7a4 0 = .ok (.iload_n 0, 1) := by decide +kernel
theorem dJ9_abs_0f7a4_1 : decode cJ9_abs_0f7a4 1 = .ok (.ifCond .ge 8, 3) := by decide +kernel
theorem dJ9_abs_0f7a4_4 : decode cJ9_abs_0f7a4 4 = .ok (.iload_n 0, 1) := by decide +kernel
theorem dJ9_abs_0f7a4_5 : decode cJ9_abs_0f7a4 5 = .ok (.ineg, 1) := by decide +kernel
theorem dJ9_abs_0f7a4_6 : decode cJ9_abs_0f7a4 6 = .ok (.goto 4, 3) := by decide +kernel
theorem dJ9_abs_0f7a4_9 : decode cJ9_abs_0f7a4 9 = .ok (.iload_n 0, 1) := by decide +kernel
theorem dJ9_abs_0f7a4_10 : decode cJ9_abs_0f7a4 10 = .ok (.ireturn, 1) := by decide +kernel
theorem dJ9_max_7cf53_0 : decode cJ9_max_7cf53 0 = .ok (.iload_n 0, 1) := by decide +kernel
theorem dJ9_max_7cf53_1 : decode cJ9_max_7cf53 1 = .ok (.iload_n 1, 1) := by decide +kernel
theorem dJ9_max_7cf53_2 : decode cJ9_max_7cf53 2 = .ok (.if_icmp .lt 7, 3) := by decide +kernel
theorem dJ9_max_7cf53_5 : decode cJ9_max_7cf53 5 = .ok (.iload_n 0, 1) := by decide +kernel
theorem dJ9_max_7cf53_6 : decode cJ9_max_7cf53 6 = .ok (.goto 4, 3) := by decide +kernel
theorem dJ9_max_7cf53_9 : decode cJ9_max_7cf53 9 = .ok (.iload_n 1, 1) := by decide +kernel
theorem dJ9_max_7cf53_10 : decode cJ9_max_7cf53 10 = .ok (.ireturn, 1) := by decide +kernel
theorem dJ9_min_7cf53_0 : decode cJ9_min_7cf53 0 = .ok (.iload_n 0, 1) := by decide +kernel
theorem dJ9_min_7cf53_1 : decode cJ9_min_7cf53 1 = .ok (.iload_n 1, 1) := by decide +kernel
theorem dJ9_min_7cf53_2 : decode cJ9_min_7cf53 2 = .ok (.if_icmp .gt 7, 3) := by decide +kernel
theorem dJ9_min_7cf53_5 : decode cJ9_min_7cf53 5 = .ok (.iload_n 0, 1) := by decide +kernel
theorem dJ9_min_7cf53_6 : decode cJ9_min_7cf53 6 = .ok (.goto 4, 3) := by decide +kernel
theorem dJ9_min_7cf53_9 : decode cJ9_min_7cf53 9 = .ok (.iload_n 1, 1) := by decide +kernel
theorem dJ9_min_7cf53_10 : decode cJ9_min_7cf53 10 = .ok (.ireturn, 1) := by decide +kernel
theorem dJ0_length_8abf5_0 : decode cJ0_length_8abf5 0 = .ok (.aload_n 0, 1) := by decide +kernel
theorem dJ0_length_8abf5_1 : decode cJ0_length_8abf5 1 = .ok (.getfield 9, 3) := by decide +kernel
theorem dJ0_length_8abf5_4 : decode cJ0_length_8abf5 4 = .ok (.arraylength, 1) := by decide +kernel
theorem dJ0_length_8abf5_5 : decode cJ0_length_8abf5 5 = .ok (.aload_n 0, 1) := by decide +kernel
theorem dJ0_length_8abf5_6 : decode cJ0_length_8abf5 6 = .ok (.invokevirtual 335, 3) := by decide +kernel
theorem dJ0_length_8abf5_9 : decode cJ0_length_8abf5 9 = .ok (.ishr, 1) := by decide +kernel
theorem dJ0_length_8abf5_10 : decode cJ0_length_8abf5 10 = .ok (.ireturn, 1) := by decide +kernel
theorem dJ0_charAt_5068e_0 : decode cJ0_charAt_5068e 0 = .ok (.aload_n 0, 1) := by decide +kernel
theorem dJ0_charAt_5068e_1 : decode cJ0_charAt_5068e 1 = .ok (.invokevirtual 492, 3) := by decide +kernel
theorem dJ0_charAt_5068e_4 : decode cJ0_charAt_5068e 4 = .ok (.ifCond .eq 12, 3) := by decide +kernel
theorem dJ0_charAt_5068e_7 : decode cJ0_charAt_5068e 7 = .ok (.aload_n 0, 1) := by decide +kernel
theorem dJ0_charAt_5068e_8 : decode cJ0_charAt_5068e 8 = .ok (.getfield 9, 3) := by decide +kernel
theorem dJ0_charAt_5068e_11 : decode cJ0_charAt_5068e 11 = .ok (.iload_n 1, 1) := by decide +kernel
theorem dJ0_charAt_5068e_12 : decode cJ0_charAt_5068e 12 = .ok (.invokestatic 495, 3) := by decide +kernel
theorem dJ0_charAt_5068e_15 : decode cJ0_charAt_5068e 15 = .ok (.ireturn, 1) := by decide +kernel
theorem dJ0_charAt_5068e_16 : decode cJ0_charAt_5068e 16 = .ok (.aload_n 0, 1) := by decide +kernel
theorem dJ0_charAt_5068e_17 : decode cJ0_charAt_5068e 17 = .ok (.getfield 9, 3) := by decide +kernel
theorem dJ0_charAt_5068e_20 : decode cJ0_charAt_5068e 20 = .ok (.iload_n 1, 1) := by decide +kernel
theorem dJ0_charAt_5068e_21 : decode cJ0_charAt_5068e 21 = .ok (.invokestatic 498, 3) := by decide +kernel
theorem dJ0_charAt_5068e_24 : decode cJ0_charAt_5068e 24 = .ok (.ireturn, 1) := by decide +kernel
theorem dJ0_coder_7d493_0 : decode cJ0_coder_7d493 0 = .ok (.getstatic 38, 3) := by decide +kernel
theorem dJ0_coder_7d493_3 : decode cJ0_coder_7d493 3 = .ok (.ifCond .eq 10, 3) := by decide +kernel
theorem dJ0_coder_7d493_6 : decode cJ0_coder_7d493 6 = .ok (.aload_n 0, 1) := by decide +kernel
theorem dJ0_coder_7d493_7 : decode cJ0_coder_7d493 7 = .ok (.getfield 15, 3) := by decide +kernel
theorem dJ0_coder_7d493_10 : decode cJ0_coder_7d493 10 = .ok (.goto 4, 3) := by decide +kernel
theorem dJ0_coder_7d493_13 : decode cJ0_coder_7d493 13 = .ok (.iconst 1, 1) := by decide +kernel
theorem dJ0_coder_7d493_14 : decode cJ0_coder_7d493 14 = .ok (.ireturn, 1) := by decide +kernel
theorem dJ0_isLatin1_aae02_0 : decode cJ0_isLatin1_aae02 0 = .ok (.getstatic 38, 3) := by decide +kernel
theorem dJ0_isLatin1_aae02_3 : decode cJ0_isLatin1_aae02 3 = .ok (.ifCond .eq 14, 3) := by decide +kernel
theorem dJ0_isLatin1_aae02_6 : decode cJ0_isLatin1_aae02 6 = .ok (.aload_n 0, 1) := by decide +kernel
theorem dJ0_isLatin1_aae02_7 : decode cJ0_isLatin1_aae02 7 = .ok (.getfield 15, 3) := by decide +kernel
theorem dJ0_isLatin1_aae02_10 : decode cJ0_isLatin1_aae02 10 = .ok (.ifCond .ne 7, 3) := by decide +kernel
theorem dJ0_isLatin1_aae02_13 : decode cJ0_isLatin1_aae02 13 = .ok (.iconst 1, 1) := by decide +kernel
theorem dJ0_isLatin1_aae02_14 : decode cJ0_isLatin1_aae02 14 = .ok (.goto 4, 3) := by decide +kernel
theorem dJ0_isLatin1_aae02_17 : decode cJ0_isLatin1_aae02 17 = .ok (.iconst 0, 1) := by decide +kernel
theorem dJ0_isLatin1_aae02_18 : decode cJ0_isLatin1_aae02 18 = .ok (.ireturn, 1) := by decide +kernel
theorem dJ0_checkIndex_df160_0 : decode cJ0_checkIndex_df160 0 = .ok (.iload_n 0, 1) := by decide +kernel
theorem dJ0_checkIndex_df160_1 : decode cJ0_checkIndex_df160 1 = .ok (.iload_n 1, 1) := by decide +kernel
theorem dJ0_checkIndex_df160_2 : decode cJ0_checkIndex_df160 2 = .ok (.getstatic 1053, 3) := by decide +kernel
theorem dJ0_checkIndex_df160_5 : decode cJ0_checkIndex_df160 5 = .ok (.invokestatic 1059, 3) := by decide +kernel
theorem dJ0_checkIndex_df160_8 : decode cJ0_checkIndex_df160 8 = .ok (.pop, 1) := by decide +kernel
theorem dJ0_checkIndex_df160_9 : decode cJ0_checkIndex_df160 9 = .ok (.return_, 1) := by decide +kernel
theorem dJ1_charAt_3b067_0 : decode cJ1_charAt_3b067 0 = .ok (.iload_n 1, 1) := by decide +kernel
theorem dJ1_charAt_3b067_1 : decode cJ1_charAt_3b067 1 = .ok (.aload_n 0, 1) := by decide +kernel
theorem dJ1_charAt_3b067_2 : decode cJ1_charAt_3b067 2 = .ok (.arraylength, 1) := by decide +kernel
theorem dJ1_charAt_3b067_3 : decode cJ1_charAt_3b067 3 = .ok (.invokestatic 9, 3) := by decide +kernel
theorem dJ1_charAt_3b067_6 : decode cJ1_charAt_3b067 6 = .ok (.aload_n 0, 1) := by decide +kernel
theorem dJ1_charAt_3b067_7 : decode cJ1_charAt_3b067 7 = .ok (.iload_n 1, 1) := by decide +kernel
theorem dJ1_charAt_3b067_8 : decode cJ1_charAt_3b067 8 = .ok (.baload, 1) := by decide +kernel
theorem dJ1_charAt_3b067_9 : decode cJ1_charAt_3b067 9 = .ok (.sipush 255, 3) := by decide +kernel
theorem dJ1_charAt_3b067_12 : decode cJ1_charAt_3b067 12 = .ok (.iand, 1) := by decide +kernel
theorem dJ1_charAt_3b067_13 : decode cJ1_charAt_3b067 13 = .ok (.i2c, 1) := by decide +kernel
theorem dJ1_charAt_3b067_14 : decode cJ1_charAt_3b067 14 = .ok (.ireturn, 1) := by decide +kernel
theorem dJ2_getChar_3b067_0 : decode cJ2_getChar_3b067 0 = .ok (.getstatic 44, 3) := by decide +kernel
theorem dJ2_getChar_3b067_3 : decode cJ2_getChar_3b067 3 = .ok (.ifCond .ne 25, 3) := by decide +kernel
theorem dJ2_getChar_3b067_6 : decode cJ2_getChar_3b067 6 = .ok (.iload_n 1, 1) := by decide +kernel
theorem dJ2_getChar_3b067_7 : decode cJ2_getChar_3b067 7 = .ok (.ifCond .lt 11, 3) := by decide +kernel
theorem dJ2_getChar_3b067_10 : decode cJ2_getChar_3b067 10 = .ok (.iload_n 1, 1) := by decide +kernel
theorem dJ2_getChar_3b067_11 : decode cJ2_getChar_3b067 11 = .ok (.aload_n 0, 1) := by decide +kernel
theorem dJ2_getChar_3b067_12 : decode cJ2_getChar_3b067 12 = .ok (.invokestatic 48, 3) := by decide +kernel
theorem dJ2_getChar_3b067_15 : decode cJ2_getChar_3b067 15 = .ok (.if_icmp .lt 13, 3) := by decide +kernel
theorem dJ2_getChar_3b067_18 : decode cJ2_getChar_3b067 18 = .ok (.new 52, 3) := by decide +kernel
theorem dJ2_getChar_3b067_21 : decode cJ2_getChar_3b067 21 = .ok (.dup, 1) := by decide +kernel
theorem dJ2_getChar_3b067_22 : decode cJ2_getChar_3b067 22 = .ok (.ldc 54, 2) := by decide +kernel
theorem dJ2_getChar_3b067_24 : decode cJ2_getChar_3b067 24 = .ok (.invokespecial 56, 3) := by decide +kernel
theorem dJ2_getChar_3b067_27 : decode cJ2_getChar_3b067 27 = .ok (.athrow, 1) := by decide +kernel
theorem dJ2_getChar_3b067_28 : decode cJ2_getChar_3b067 28 = .ok (.iload_n 1, 1) := by decide +kernel
theorem dJ2_getChar_3b067_29 : decode cJ2_getChar_3b067 29 = .ok (.iconst 1, 1) := by decide +kernel
theorem dJ2_getChar_3b067_30 : decode cJ2_getChar_3b067 30 = .ok (.ishl, 1) := by decide +kernel
theorem dJ2_getChar_3b067_31 : decode cJ2_getChar_3b067 31 = .ok (.istore_n 1, 1) := by decide +kernel
theorem dJ2_getChar_3b067_32 : decode cJ2_getChar_3b067 32 = .ok (.aload_n 0, 1) := by decide +kernel
theorem dJ2_getChar_3b067_33 : decode cJ2_getChar_3b067 33 = .ok (.iload_n 1, 1) := by decide +kernel
theorem dJ2_getChar_3b067_34 : decode cJ2_getChar_3b067 34 = .ok (.iinc 1 1, 3) := by decide +kernel
theorem dJ2_getChar_3b067_37 : decode cJ2_getChar_3b067 37 = .ok (.baload, 1) := by decide +kernel
theorem dJ2_getChar_3b067_38 : decode cJ2_getChar_3b067 38 = .ok (.sipush 255, 3) := by decide +kernel
theorem dJ2_getChar_3b067_41 : decode cJ2_getChar_3b067 41 = .ok (.iand, 1) := by decide +kernel
theorem dJ2_getChar_3b067_42 : decode cJ2_getChar_3b067 42 = .ok (.getstatic 59, 3) := by decide +kernel
theorem dJ2_getChar_3b067_45 : decode cJ2_getChar_3b067 45 = .ok (.ishl, 1) := by decide +kernel
theorem dJ2_getChar_3b067_46 : decode cJ2_getChar_3b067 46 = .ok (.aload_n 0, 1) := by decide +kernel
theorem dJ2_getChar_3b067_47 : decode cJ2_getChar_3b067 47 = .ok (.iload_n 1, 1) := by decide +kernel
theorem dJ2_getChar_3b067_48 : decode cJ2_getChar_3b067 48 = .ok (.baload, 1) := by decide +kernel
theorem dJ2_getChar_3b067_49 : decode cJ2_getChar_3b067 49 = .ok (.sipush 255, 3) := by decide +kernel
theorem dJ2_getChar_3b067_52 : decode cJ2_getChar_3b067 52 = .ok (.iand, 1) := by decide +kernel
theorem dJ2_getChar_3b067_53 : decode cJ2_getChar_3b067 53 = .ok (.getstatic 63, 3) := by decide +kernel
theorem dJ2_getChar_3b067_56 : decode cJ2_getChar_3b067 56 = .ok (.ishl, 1) := by decide +kernel
theorem dJ2_getChar_3b067_57 : decode cJ2_getChar_3b067 57 = .ok (.ior, 1) := by decide +kernel
theorem dJ2_getChar_3b067_58 : decode cJ2_getChar_3b067 58 = .ok (.i2c, 1) := by decide +kernel
theorem dJ2_getChar_3b067_59 : decode cJ2_getChar_3b067 59 = .ok (.ireturn, 1) := by decide +kernel
theorem dJ2_length_9d52b_0 : decode cJ2_length_9d52b 0 = .ok (.aload_n 0, 1) := by decide +kernel
theorem dJ2_length_9d52b_1 : decode cJ2_length_9d52b 1 = .ok (.arraylength, 1) := by decide +kernel
theorem dJ2_length_9d52b_2 : decode cJ2_length_9d52b 2 = .ok (.iconst 1, 1) := by decide +kernel
theorem dJ2_length_9d52b_3 : decode cJ2_length_9d52b 3 = .ok (.ishr, 1) := by decide +kernel
theorem dJ2_length_9d52b_4 : decode cJ2_length_9d52b 4 = .ok (.ireturn, 1) := by decide +kernel
theorem dJ2_charAt_3b067_0 : decode cJ2_charAt_3b067 0 = .ok (.iload_n 1, 1) := by decide +kernel
theorem dJ2_charAt_3b067_1 : decode cJ2_charAt_3b067 1 = .ok (.aload_n 0, 1) := by decide +kernel
theorem dJ2_charAt_3b067_2 : decode cJ2_charAt_3b067 2 = .ok (.invokestatic 67, 3) := by decide +kernel
theorem dJ2_charAt_3b067_5 : decode cJ2_charAt_3b067 5 = .ok (.aload_n 0, 1) := by decide +kernel
theorem dJ2_charAt_3b067_6 : decode cJ2_charAt_3b067 6 = .ok (.iload_n 1, 1) := by decide +kernel
theorem dJ2_charAt_3b067_7 : decode cJ2_charAt_3b067 7 = .ok (.invokestatic 71, 3) := by decide +kernel
theorem dJ2_charAt_3b067_10 : decode cJ2_charAt_3b067 10 = .ok (.ireturn, 1) := by decide +kernel
theorem dJ2_checkIndex_2214a_0 : decode cJ2_checkIndex_2214a 0 = .ok (.iload_n 0, 1) := by decide +kernel
theorem dJ2_checkIndex_2214a_1 : decode cJ2_checkIndex_2214a 1 = .ok (.aload_n 1, 1) := by decide +kernel
theorem dJ2_checkIndex_2214a_2 : decode cJ2_checkIndex_2214a 2 = .ok (.invokestatic 48, 3) := by decide +kernel
theorem dJ2_checkIndex_2214a_5 : decode cJ2_checkIndex_2214a 5 = .ok (.invokestatic 414, 3) := by decide +kernel
theorem dJ2_checkIndex_2214a_8 : decode cJ2_checkIndex_2214a 8 = .ok (.return_, 1) := by decide +kernel
theorem dJ3_checkIndex_8e157_0 : decode cJ3_checkIndex_8e157 0 = .ok (.iload_n 0, 1) := by decide +kernel
theorem dJ3_checkIndex_8e157_1 : decode cJ3_checkIndex_8e157 1 = .ok (.ifCond .lt 8, 3) := by decide +kernel
theorem dJ3_checkIndex_8e157_4 : decode cJ3_checkIndex_8e157 4 = .ok (.iload_n 0, 1) := by decide +kernel
theorem dJ3_checkIndex_8e157_5 : decode cJ3_checkIndex_8e157 5 = .ok (.iload_n 1, 1) := by decide +kernel
theorem dJ3_checkIndex_8e157_6 : decode cJ3_checkIndex_8e157 6 = .ok (.if_icmp .lt 10, 3) := by decide +kernel
theorem dJ3_checkIndex_8e157_9 : decode cJ3_checkIndex_8e157 9 = .ok (.aload_n 2, 1) := by decide +kernel
theorem dJ3_checkIndex_8e157_10 : decode cJ3_checkIndex_8e157 10 = .ok (.iload_n 0, 1) := by decide +kernel
theorem dJ3_checkIndex_8e157_11 : decode cJ3_checkIndex_8e157 11 = .ok (.iload_n 1, 1) := by decide +kernel
theorem dJ3_checkIndex_8e157_12 : decode cJ3_checkIndex_8e157 12 = .ok (.invokestatic 95, 3) := by decide +kernel
theorem dJ3_checkIndex_8e157_15 : decode cJ3_checkIndex_8e157 15 = .ok (.athrow, 1) := by decide +kernel
theorem dJ3_checkIndex_8e157_16 : decode cJ3_checkIndex_8e157 16 = .ok (.iload_n 0, 1) := by decide +kernel
theorem dJ3_checkIndex_8e157_17 : decode cJ3_checkIndex_8e157 17 = .ok (.ireturn, 1) := by decide +kernel
