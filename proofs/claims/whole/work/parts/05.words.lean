/-! the tables' words by name (names.py) -/
def wA : List Cond := lw_tbl.filter goodWord
theorem wa_ {i : Nat} {w : Cond} (h : lw_tbl[i]? = some w) (hg : goodWord w = true) : w ∈ wA := List.mem_filter.mpr ⟨List.mem_of_getElem? h, hg⟩
theorem wA_in : ∀ w ∈ wA, w ∈ lw_tbl := fun _ h => (List.mem_filter.mp h).1
theorem gA_ {big : List Cond} (hb : ∀ w ∈ wA, w ∈ big) {w0 : Cond} (hc : w0 ∈ wA) : GoodIn big (w0 :: wA) := fun w h => by
  rcases List.mem_cons.mp h with rfl | h
  · exact ⟨hb _ hc, good_of_word (List.mem_filter.mp hc).2⟩
  · exact ⟨hb _ h, good_of_word (List.mem_filter.mp h).2⟩
theorem gW_ {big : List Cond} (hb : ∀ w ∈ wA, w ∈ big) {w : Cond} (h : w ∈ wA) : w ∈ big ∧ ((w.onTables && w.keeps) = true ∨ ∃ ty, w = .arrayClass ty) := ⟨hb _ h, good_of_word (List.mem_filter.mp h).2⟩
theorem gV_ {big : List Cond} (hb : ∀ w ∈ wA, w ∈ big) {own : String} {i : Nat} {C : String} {y : MethodName} {w0 : Cond} (h1 : Cond.methodLink own i y ∈ wA) (h2 : Cond.instanceMethod y ∈ wA) (h3 : Cond.selects C y y ∈ wA) (h4 : Cond.initialized C ∈ wA) (hc : w0 ∈ wA) : GoodIn big (wsV own i C y (w0 :: wA)) := fun w h => by
  rcases List.mem_append.mp h with h | h
  · simp only [List.mem_cons, List.not_mem_nil, or_false] at h
    rcases h with rfl | rfl | rfl | rfl
    · exact gW_ hb h1
    · exact gW_ hb h2
    · exact gW_ hb h3
    · exact gW_ hb h4
  · exact gA_ hb hc w h
theorem gS_ {big : List Cond} (hb : ∀ w ∈ wA, w ∈ big) {own : String} {i : Nat} {y : MethodName} {w0 : Cond} (h1 : Cond.methodLink own i y ∈ wA) (h2 : Cond.static y ∈ wA) (h4 : Cond.initialized y.cls ∈ wA) (hc : w0 ∈ wA) : GoodIn big (va_wsS own i y (w0 :: wA)) := fun w h => by
  rcases List.mem_append.mp h with h | h
  · simp only [List.mem_cons, List.not_mem_nil, or_false] at h
    rcases h with rfl | rfl | rfl
    · exact gW_ hb h1
    · exact gW_ hb h2
    · exact gW_ hb h4
  · exact gA_ hb hc w h
theorem k0 : Cond.selects RX0 yX0_putDigits yX0_putDigits ∈ wA := wa_ (i := 0) (by decide +kernel) (by decide +kernel)
theorem k1 : Cond.selects RX0 yX0_hasRoom yX0_hasRoom ∈ wA := wa_ (i := 1) (by decide +kernel) (by decide +kernel)
theorem k2 : Cond.selects RX0 yX0_makeGap yX0_makeGap ∈ wA := wa_ (i := 2) (by decide +kernel) (by decide +kernel)
theorem k3 : Cond.selects RX0 yX0_putWord yX0_putWord ∈ wA := wa_ (i := 3) (by decide +kernel) (by decide +kernel)
theorem k4 : Cond.selects RX0 yX0_putScrap yX0_putScrap ∈ wA := wa_ (i := 4) (by decide +kernel) (by decide +kernel)
theorem k5 : Cond.selects RX0 yX0_putSign yX0_putSign ∈ wA := wa_ (i := 5) (by decide +kernel) (by decide +kernel)
theorem k6 : Cond.selects RX0 yX0_isPlaceOrEnd yX0_isPlaceOrEnd ∈ wA := wa_ (i := 6) (by decide +kernel) (by decide +kernel)
theorem k7 : Cond.selects RX0 yX0_isPlace yX0_isPlace ∈ wA := wa_ (i := 7) (by decide +kernel) (by decide +kernel)
theorem k8 : Cond.selects RX0 yX0_findBackward yX0_findBackward ∈ wA := wa_ (i := 8) (by decide +kernel) (by decide +kernel)
theorem k9 : Cond.selects RX0 yX0_scrapStandsAt yX0_scrapStandsAt ∈ wA := wa_ (i := 9) (by decide +kernel) (by decide +kernel)
theorem k10 : Cond.selects RX0 yX0_findForward yX0_findForward ∈ wA := wa_ (i := 10) (by decide +kernel) (by decide +kernel)
theorem k11 : Cond.selects RX0 yX0_sumOfText yX0_sumOfText ∈ wA := wa_ (i := 11) (by decide +kernel) (by decide +kernel)
theorem k12 : Cond.selects RX1 yX1_digits yX1_digits ∈ wA := wa_ (i := 12) (by decide +kernel) (by decide +kernel)
theorem k13 : Cond.selects RX1 yX1_putDigits yX1_putDigits ∈ wA := wa_ (i := 13) (by decide +kernel) (by decide +kernel)
theorem k14 : Cond.selects RX1 yX1_full yX1_full ∈ wA := wa_ (i := 14) (by decide +kernel) (by decide +kernel)
theorem k15 : Cond.selects RX1 yX1_open yX1_open ∈ wA := wa_ (i := 15) (by decide +kernel) (by decide +kernel)
theorem k16 : Cond.selects RX1 yX1_letters yX1_letters ∈ wA := wa_ (i := 16) (by decide +kernel) (by decide +kernel)
theorem k17 : Cond.selects RX1 yX1_putScrap yX1_putScrap ∈ wA := wa_ (i := 17) (by decide +kernel) (by decide +kernel)
theorem k18 : Cond.selects RX1 yX1_close yX1_close ∈ wA := wa_ (i := 18) (by decide +kernel) (by decide +kernel)
theorem k19 : Cond.selects RX1 yX1_stands yX1_stands ∈ wA := wa_ (i := 19) (by decide +kernel) (by decide +kernel)
theorem k20 : Cond.initialized RL ∈ wA := wa_ (i := 20) (by decide +kernel) (by decide +kernel)
theorem k21 : Cond.initialized RX0 ∈ wA := wa_ (i := 21) (by decide +kernel) (by decide +kernel)
theorem k22 : Cond.initialized RX1 ∈ wA := wa_ (i := 22) (by decide +kernel) (by decide +kernel)
theorem k23 : Cond.initialized "java/lang/System" ∈ wA := wa_ (i := 23) (by decide +kernel) (by decide +kernel)
theorem k24 : Cond.initialized "java/lang/Math" ∈ wA := wa_ (i := 24) (by decide +kernel) (by decide +kernel)
theorem k25 : Cond.initialized RJ0 ∈ wA := wa_ (i := 25) (by decide +kernel) (by decide +kernel)
theorem k26 : Cond.initialized RJ1 ∈ wA := wa_ (i := 26) (by decide +kernel) (by decide +kernel)
theorem k27 : Cond.initialized RJ3 ∈ wA := wa_ (i := 27) (by decide +kernel) (by decide +kernel)
theorem k28 : Cond.initialized RJ2 ∈ wA := wa_ (i := 28) (by decide +kernel) (by decide +kernel)
theorem k29 : Cond.classLink RL 7 RX0 ∈ wA := wa_ (i := 29) (by decide +kernel) (by decide +kernel)
theorem k30 : Cond.instantiable RX0 4 ∈ wA := wa_ (i := 30) (by decide +kernel) (by decide +kernel)
theorem k31 : Cond.methodLink RL 9 yX0_init ∈ wA := wa_ (i := 31) (by decide +kernel) (by decide +kernel)
theorem k32 : Cond.instanceMethod yX0_init ∈ wA := wa_ (i := 32) (by decide +kernel) (by decide +kernel)
theorem k33 : Cond.code yX0_init cX0_init 1 none ∈ wA := wa_ (i := 33) (by decide +kernel) (by decide +kernel)
theorem k34 : Cond.methodLink RX0 1 objectInit ∈ wA := wa_ (i := 34) (by decide +kernel) (by decide +kernel)
theorem k35 : Cond.instanceMethod objectInit ∈ wA := wa_ (i := 35) (by decide +kernel) (by decide +kernel)
theorem k36 : Cond.code objectInit ⟨#[0xb1]⟩ 1 none ∈ wA := wa_ (i := 36) (by decide +kernel) (by decide +kernel)
theorem k37 : Cond.fieldLink RX0 9 "TextLoom" "textSigns" "[I" ∈ wA := wa_ (i := 37) (by decide +kernel) (by decide +kernel)
theorem k38 : Cond.fieldLink RX0 13 "TextLoom" "scrapSigns" "[I" ∈ wA := wa_ (i := 38) (by decide +kernel) (by decide +kernel)
theorem k39 : Cond.fieldLink RX0 16 "TextLoom" "textCount" "I" ∈ wA := wa_ (i := 39) (by decide +kernel) (by decide +kernel)
theorem k40 : Cond.fieldLink RX0 20 "TextLoom" "scrapCount" "I" ∈ wA := wa_ (i := 40) (by decide +kernel) (by decide +kernel)
theorem k50 : Cond.arrayClass .int ∈ wA := wa_ (i := 50) (by decide +kernel) (by decide +kernel)
theorem k51 : Cond.methodLink RL 13 yX0_note ∈ wA := wa_ (i := 51) (by decide +kernel) (by decide +kernel)
theorem k52 : Cond.instanceMethod yX0_note ∈ wA := wa_ (i := 52) (by decide +kernel) (by decide +kernel)
theorem k53 : Cond.selects RX0 yX0_note yX0_note ∈ wA := wa_ (i := 53) (by decide +kernel) (by decide +kernel)
theorem k54 : Cond.code yX0_note cX0_note 2 (some .int) ∈ wA := wa_ (i := 54) (by decide +kernel) (by decide +kernel)
theorem k55 : Cond.methodLink RX0 23 yX0_isSign ∈ wA := wa_ (i := 55) (by decide +kernel) (by decide +kernel)
theorem k56 : Cond.static yX0_isSign ∈ wA := wa_ (i := 56) (by decide +kernel) (by decide +kernel)
theorem k57 : Cond.code yX0_isSign cX0_isSign 2 (some .boolean) ∈ wA := wa_ (i := 57) (by decide +kernel) (by decide +kernel)
theorem k58 : Cond.constantLong RX0 82 65536 ∈ wA := wa_ (i := 58) (by decide +kernel) (by decide +kernel)
theorem k59 : Cond.constantLong RX0 84 55296 ∈ wA := wa_ (i := 59) (by decide +kernel) (by decide +kernel)
theorem k60 : Cond.constantLong RX0 86 57343 ∈ wA := wa_ (i := 60) (by decide +kernel) (by decide +kernel)
theorem k61 : Cond.methodLink RL 18 yX0_drop ∈ wA := wa_ (i := 61) (by decide +kernel) (by decide +kernel)
theorem k62 : Cond.instanceMethod yX0_drop ∈ wA := wa_ (i := 62) (by decide +kernel) (by decide +kernel)
theorem k63 : Cond.selects RX0 yX0_drop yX0_drop ∈ wA := wa_ (i := 63) (by decide +kernel) (by decide +kernel)
theorem k64 : Cond.code yX0_drop cX0_drop 2 (some .int) ∈ wA := wa_ (i := 64) (by decide +kernel) (by decide +kernel)
theorem k65 : Cond.methodLink RL 25 yX0_add ∈ wA := wa_ (i := 65) (by decide +kernel) (by decide +kernel)
theorem k66 : Cond.instanceMethod yX0_add ∈ wA := wa_ (i := 66) (by decide +kernel) (by decide +kernel)
theorem k67 : Cond.selects RX0 yX0_add yX0_add ∈ wA := wa_ (i := 67) (by decide +kernel) (by decide +kernel)
theorem k68 : Cond.code yX0_add cX0_add 4 (some .int) ∈ wA := wa_ (i := 68) (by decide +kernel) (by decide +kernel)
theorem k69 : Cond.methodLink RX0 27 yX0_putDigits ∈ wA := wa_ (i := 69) (by decide +kernel) (by decide +kernel)
theorem k71 : Cond.instanceMethod yX0_putDigits ∈ wA := wa_ (i := 71) (by decide +kernel) (by decide +kernel)
theorem k72 : Cond.code yX0_putDigits cX0_putDigits 9 (some .int) ∈ wA := wa_ (i := 72) (by decide +kernel) (by decide +kernel)
theorem k73 : Cond.methodLink RX0 100 yX0_countDigits ∈ wA := wa_ (i := 73) (by decide +kernel) (by decide +kernel)
theorem k74 : Cond.static yX0_countDigits ∈ wA := wa_ (i := 74) (by decide +kernel) (by decide +kernel)
theorem k75 : Cond.code yX0_countDigits cX0_countDigits 5 (some .int) ∈ wA := wa_ (i := 75) (by decide +kernel) (by decide +kernel)
theorem k76 : Cond.constantLong RX0 104 10 ∈ wA := wa_ (i := 76) (by decide +kernel) (by decide +kernel)
theorem k77 : Cond.methodLink RX0 88 yX0_hasRoom ∈ wA := wa_ (i := 77) (by decide +kernel) (by decide +kernel)
theorem k79 : Cond.instanceMethod yX0_hasRoom ∈ wA := wa_ (i := 79) (by decide +kernel) (by decide +kernel)
theorem k80 : Cond.code yX0_hasRoom cX0_hasRoom 2 (some .boolean) ∈ wA := wa_ (i := 80) (by decide +kernel) (by decide +kernel)
theorem k81 : Cond.methodLink RX0 55 yX0_makeGap ∈ wA := wa_ (i := 81) (by decide +kernel) (by decide +kernel)
theorem k83 : Cond.instanceMethod yX0_makeGap ∈ wA := wa_ (i := 83) (by decide +kernel) (by decide +kernel)
theorem k84 : Cond.code yX0_makeGap cX0_makeGap 4 none ∈ wA := wa_ (i := 84) (by decide +kernel) (by decide +kernel)
theorem k85 : Cond.methodLink RX0 69 arraycopyName ∈ wA := wa_ (i := 85) (by decide +kernel) (by decide +kernel)
theorem k86 : Cond.static arraycopyName ∈ wA := wa_ (i := 86) (by decide +kernel) (by decide +kernel)
theorem k87 : Cond.native arraycopyName ∈ wA := wa_ (i := 87) (by decide +kernel) (by decide +kernel)
theorem k88 : Cond.methodLink RX0 106 Lib.Math.abs.name ∈ wA := wa_ (i := 88) (by decide +kernel) (by decide +kernel)
theorem k89 : Cond.static Lib.Math.abs.name ∈ wA := wa_ (i := 89) (by decide +kernel) (by decide +kernel)
theorem k90 : Cond.code Lib.Math.abs.name Lib.Math.abs.code 1 (some .int) ∈ wA := wa_ (i := 90) (by decide +kernel) (by decide +kernel)
theorem k91 : Cond.stringRef RX0 31 "false" ∈ lw_tbl := List.mem_of_getElem? (i := 91) (by decide +kernel)
theorem k92 : Cond.stringRef RX0 33 "true" ∈ lw_tbl := List.mem_of_getElem? (i := 92) (by decide +kernel)
theorem k93 : Cond.methodLink RX0 35 yX0_putWord ∈ wA := wa_ (i := 93) (by decide +kernel) (by decide +kernel)
theorem k95 : Cond.instanceMethod yX0_putWord ∈ wA := wa_ (i := 95) (by decide +kernel) (by decide +kernel)
theorem k96 : Cond.code yX0_putWord cX0_putWord 5 (some .int) ∈ wA := wa_ (i := 96) (by decide +kernel) (by decide +kernel)
theorem k97 : Cond.methodLink RX0 91 yJ0_length_8abf5 ∈ wA := wa_ (i := 97) (by decide +kernel) (by decide +kernel)
theorem k98 : Cond.instanceMethod yJ0_length_8abf5 ∈ wA := wa_ (i := 98) (by decide +kernel) (by decide +kernel)
theorem k99 : Cond.selects RJ0 yJ0_length_8abf5 yJ0_length_8abf5 ∈ wA := wa_ (i := 99) (by decide +kernel) (by decide +kernel)
theorem k100 : Cond.code yJ0_length_8abf5 cJ0_length_8abf5 1 (some .int) ∈ wA := wa_ (i := 100) (by decide +kernel) (by decide +kernel)
theorem k101 : Cond.methodLink RJ0 335 yJ0_coder_7d493 ∈ wA := wa_ (i := 101) (by decide +kernel) (by decide +kernel)
theorem k102 : Cond.instanceMethod yJ0_coder_7d493 ∈ wA := wa_ (i := 102) (by decide +kernel) (by decide +kernel)
theorem k103 : Cond.selects RJ0 yJ0_coder_7d493 yJ0_coder_7d493 ∈ wA := wa_ (i := 103) (by decide +kernel) (by decide +kernel)
theorem k104 : Cond.code yJ0_coder_7d493 cJ0_coder_7d493 1 (some .byte) ∈ wA := wa_ (i := 104) (by decide +kernel) (by decide +kernel)
theorem k105 : Cond.fieldLink RJ0 38 "java/lang/String" "COMPACT_STRINGS" "Z" ∈ wA := wa_ (i := 105) (by decide +kernel) (by decide +kernel)
theorem k106 : Cond.laysStatic "java/lang/String" "COMPACT_STRINGS" "Z" ∈ lw_tbl := List.mem_of_getElem? (i := 106) (by decide +kernel)
theorem k107 : Cond.methodLink RX0 96 yJ0_charAt_5068e ∈ wA := wa_ (i := 107) (by decide +kernel) (by decide +kernel)
theorem k108 : Cond.instanceMethod yJ0_charAt_5068e ∈ wA := wa_ (i := 108) (by decide +kernel) (by decide +kernel)
theorem k109 : Cond.selects RJ0 yJ0_charAt_5068e yJ0_charAt_5068e ∈ wA := wa_ (i := 109) (by decide +kernel) (by decide +kernel)
theorem k110 : Cond.code yJ0_charAt_5068e cJ0_charAt_5068e 2 (some .char) ∈ wA := wa_ (i := 110) (by decide +kernel) (by decide +kernel)
theorem k111 : Cond.methodLink RJ0 492 yJ0_isLatin1_aae02 ∈ wA := wa_ (i := 111) (by decide +kernel) (by decide +kernel)
theorem k112 : Cond.instanceMethod yJ0_isLatin1_aae02 ∈ wA := wa_ (i := 112) (by decide +kernel) (by decide +kernel)
theorem k113 : Cond.selects RJ0 yJ0_isLatin1_aae02 yJ0_isLatin1_aae02 ∈ wA := wa_ (i := 113) (by decide +kernel) (by decide +kernel)
theorem k114 : Cond.code yJ0_isLatin1_aae02 cJ0_isLatin1_aae02 1 (some .boolean) ∈ wA := wa_ (i := 114) (by decide +kernel) (by decide +kernel)
theorem k115 : Cond.methodLink RJ0 495 yJ1_charAt_3b067 ∈ wA := wa_ (i := 115) (by decide +kernel) (by decide +kernel)
theorem k116 : Cond.static yJ1_charAt_3b067 ∈ wA := wa_ (i := 116) (by decide +kernel) (by decide +kernel)
theorem k117 : Cond.code yJ1_charAt_3b067 cJ1_charAt_3b067 2 (some .char) ∈ wA := wa_ (i := 117) (by decide +kernel) (by decide +kernel)
theorem k118 : Cond.methodLink RJ1 9 yJ0_checkIndex_df160 ∈ wA := wa_ (i := 118) (by decide +kernel) (by decide +kernel)
theorem k119 : Cond.static yJ0_checkIndex_df160 ∈ wA := wa_ (i := 119) (by decide +kernel) (by decide +kernel)
theorem k120 : Cond.code yJ0_checkIndex_df160 cJ0_checkIndex_df160 2 none ∈ wA := wa_ (i := 120) (by decide +kernel) (by decide +kernel)
theorem k121 : Cond.fieldLink RJ0 1053 "jdk/internal/util/Preconditions" "SIOOBE_FORMATTER" "Ljava/util/function/BiFunction;" ∈ wA := wa_ (i := 121) (by decide +kernel) (by decide +kernel)
theorem k122 : Cond.laysStatic "jdk/internal/util/Preconditions" "SIOOBE_FORMATTER" "Ljava/util/function/BiFunction;" ∈ lw_tbl := List.mem_of_getElem? (i := 122) (by decide +kernel)
theorem k123 : Cond.methodLink RJ0 1059 yJ3_checkIndex_8e157 ∈ wA := wa_ (i := 123) (by decide +kernel) (by decide +kernel)
theorem k124 : Cond.static yJ3_checkIndex_8e157 ∈ wA := wa_ (i := 124) (by decide +kernel) (by decide +kernel)
theorem k125 : Cond.code yJ3_checkIndex_8e157 cJ3_checkIndex_8e157 3 (some .int) ∈ wA := wa_ (i := 125) (by decide +kernel) (by decide +kernel)
theorem k126 : Cond.methodLink RJ0 498 yJ2_charAt_3b067 ∈ wA := wa_ (i := 126) (by decide +kernel) (by decide +kernel)
theorem k127 : Cond.static yJ2_charAt_3b067 ∈ wA := wa_ (i := 127) (by decide +kernel) (by decide +kernel)
theorem k128 : Cond.code yJ2_charAt_3b067 cJ2_charAt_3b067 2 (some .char) ∈ wA := wa_ (i := 128) (by decide +kernel) (by decide +kernel)
theorem k129 : Cond.methodLink RJ2 67 yJ2_checkIndex_2214a ∈ wA := wa_ (i := 129) (by decide +kernel) (by decide +kernel)
theorem k130 : Cond.static yJ2_checkIndex_2214a ∈ wA := wa_ (i := 130) (by decide +kernel) (by decide +kernel)
theorem k131 : Cond.code yJ2_checkIndex_2214a cJ2_checkIndex_2214a 2 none ∈ wA := wa_ (i := 131) (by decide +kernel) (by decide +kernel)
theorem k132 : Cond.methodLink RJ2 48 yJ2_length_9d52b ∈ wA := wa_ (i := 132) (by decide +kernel) (by decide +kernel)
theorem k133 : Cond.static yJ2_length_9d52b ∈ wA := wa_ (i := 133) (by decide +kernel) (by decide +kernel)
theorem k134 : Cond.code yJ2_length_9d52b cJ2_length_9d52b 1 (some .int) ∈ wA := wa_ (i := 134) (by decide +kernel) (by decide +kernel)
theorem k135 : Cond.methodLink RJ2 414 yJ0_checkIndex_df160 ∈ wA := wa_ (i := 135) (by decide +kernel) (by decide +kernel)
theorem k136 : Cond.methodLink RJ2 71 yJ2_getChar_3b067 ∈ wA := wa_ (i := 136) (by decide +kernel) (by decide +kernel)
theorem k137 : Cond.static yJ2_getChar_3b067 ∈ wA := wa_ (i := 137) (by decide +kernel) (by decide +kernel)
theorem k138 : Cond.code yJ2_getChar_3b067 cJ2_getChar_3b067 2 (some .char) ∈ wA := wa_ (i := 138) (by decide +kernel) (by decide +kernel)
theorem k139 : Cond.fieldLink RJ2 44 "java/lang/StringUTF16" "$assertionsDisabled" "Z" ∈ wA := wa_ (i := 139) (by decide +kernel) (by decide +kernel)
theorem k140 : Cond.laysStatic "java/lang/StringUTF16" "$assertionsDisabled" "Z" ∈ lw_tbl := List.mem_of_getElem? (i := 140) (by decide +kernel)
theorem k141 : Cond.fieldLink RJ2 59 "java/lang/StringUTF16" "HI_BYTE_SHIFT" "I" ∈ wA := wa_ (i := 141) (by decide +kernel) (by decide +kernel)
theorem k142 : Cond.laysStatic "java/lang/StringUTF16" "HI_BYTE_SHIFT" "I" ∈ lw_tbl := List.mem_of_getElem? (i := 142) (by decide +kernel)
theorem k143 : Cond.fieldLink RJ2 63 "java/lang/StringUTF16" "LO_BYTE_SHIFT" "I" ∈ wA := wa_ (i := 143) (by decide +kernel) (by decide +kernel)
theorem k144 : Cond.laysStatic "java/lang/StringUTF16" "LO_BYTE_SHIFT" "I" ∈ lw_tbl := List.mem_of_getElem? (i := 144) (by decide +kernel)
theorem k145 : Cond.methodLink RX0 39 yX0_putScrap ∈ wA := wa_ (i := 145) (by decide +kernel) (by decide +kernel)
theorem k147 : Cond.instanceMethod yX0_putScrap ∈ wA := wa_ (i := 147) (by decide +kernel) (by decide +kernel)
theorem k148 : Cond.code yX0_putScrap cX0_putScrap 3 (some .int) ∈ wA := wa_ (i := 148) (by decide +kernel) (by decide +kernel)
theorem k149 : Cond.methodLink RX0 43 yX0_putSign ∈ wA := wa_ (i := 149) (by decide +kernel) (by decide +kernel)
theorem k151 : Cond.instanceMethod yX0_putSign ∈ wA := wa_ (i := 151) (by decide +kernel) (by decide +kernel)
theorem k152 : Cond.code yX0_putSign cX0_putSign 3 (some .int) ∈ wA := wa_ (i := 152) (by decide +kernel) (by decide +kernel)
theorem k153 : Cond.arrayClass .byte ∈ wA := wa_ (i := 153) (by decide +kernel) (by decide +kernel)
theorem k154 : Cond.methodLink RL 30 yX0_insert ∈ wA := wa_ (i := 154) (by decide +kernel) (by decide +kernel)
theorem k155 : Cond.instanceMethod yX0_insert ∈ wA := wa_ (i := 155) (by decide +kernel) (by decide +kernel)
theorem k156 : Cond.selects RX0 yX0_insert yX0_insert ∈ wA := wa_ (i := 156) (by decide +kernel) (by decide +kernel)
theorem k157 : Cond.code yX0_insert cX0_insert 5 (some .int) ∈ wA := wa_ (i := 157) (by decide +kernel) (by decide +kernel)
theorem k158 : Cond.methodLink RX0 46 yX0_isPlaceOrEnd ∈ wA := wa_ (i := 158) (by decide +kernel) (by decide +kernel)
theorem k160 : Cond.instanceMethod yX0_isPlaceOrEnd ∈ wA := wa_ (i := 160) (by decide +kernel) (by decide +kernel)
theorem k161 : Cond.code yX0_isPlaceOrEnd cX0_isPlaceOrEnd 2 (some .boolean) ∈ wA := wa_ (i := 161) (by decide +kernel) (by decide +kernel)
theorem k162 : Cond.methodLink RL 35 yX0_cut ∈ wA := wa_ (i := 162) (by decide +kernel) (by decide +kernel)
theorem k163 : Cond.instanceMethod yX0_cut ∈ wA := wa_ (i := 163) (by decide +kernel) (by decide +kernel)
theorem k164 : Cond.selects RX0 yX0_cut yX0_cut ∈ wA := wa_ (i := 164) (by decide +kernel) (by decide +kernel)
theorem k165 : Cond.code yX0_cut cX0_cut 3 (some .int) ∈ wA := wa_ (i := 165) (by decide +kernel) (by decide +kernel)
theorem k166 : Cond.methodLink RX0 50 Lib.Math.min.name ∈ wA := wa_ (i := 166) (by decide +kernel) (by decide +kernel)
theorem k167 : Cond.static Lib.Math.min.name ∈ wA := wa_ (i := 167) (by decide +kernel) (by decide +kernel)
theorem k168 : Cond.code Lib.Math.min.name Lib.Math.min.code 2 (some .int) ∈ wA := wa_ (i := 168) (by decide +kernel) (by decide +kernel)
theorem k169 : Cond.methodLink RL 40 yX0_swap ∈ wA := wa_ (i := 169) (by decide +kernel) (by decide +kernel)
theorem k170 : Cond.instanceMethod yX0_swap ∈ wA := wa_ (i := 170) (by decide +kernel) (by decide +kernel)
theorem k171 : Cond.selects RX0 yX0_swap yX0_swap ∈ wA := wa_ (i := 171) (by decide +kernel) (by decide +kernel)
theorem k172 : Cond.code yX0_swap cX0_swap 3 (some .int) ∈ wA := wa_ (i := 172) (by decide +kernel) (by decide +kernel)
theorem k173 : Cond.methodLink RL 44 yX0_take ∈ wA := wa_ (i := 173) (by decide +kernel) (by decide +kernel)
theorem k174 : Cond.instanceMethod yX0_take ∈ wA := wa_ (i := 174) (by decide +kernel) (by decide +kernel)
theorem k175 : Cond.selects RX0 yX0_take yX0_take ∈ wA := wa_ (i := 175) (by decide +kernel) (by decide +kernel)
theorem k176 : Cond.code yX0_take cX0_take 3 (some .int) ∈ wA := wa_ (i := 176) (by decide +kernel) (by decide +kernel)
theorem k177 : Cond.methodLink RX0 59 yX0_isPlace ∈ wA := wa_ (i := 177) (by decide +kernel) (by decide +kernel)
theorem k179 : Cond.instanceMethod yX0_isPlace ∈ wA := wa_ (i := 179) (by decide +kernel) (by decide +kernel)
theorem k180 : Cond.code yX0_isPlace cX0_isPlace 2 (some .boolean) ∈ wA := wa_ (i := 180) (by decide +kernel) (by decide +kernel)
theorem k181 : Cond.methodLink RL 48 yX0_set ∈ wA := wa_ (i := 181) (by decide +kernel) (by decide +kernel)
theorem k182 : Cond.instanceMethod yX0_set ∈ wA := wa_ (i := 182) (by decide +kernel) (by decide +kernel)
theorem k183 : Cond.selects RX0 yX0_set yX0_set ∈ wA := wa_ (i := 183) (by decide +kernel) (by decide +kernel)
theorem k184 : Cond.code yX0_set cX0_set 4 (some .int) ∈ wA := wa_ (i := 184) (by decide +kernel) (by decide +kernel)
theorem k185 : Cond.methodLink RL 52 yX0_get ∈ wA := wa_ (i := 185) (by decide +kernel) (by decide +kernel)
theorem k186 : Cond.instanceMethod yX0_get ∈ wA := wa_ (i := 186) (by decide +kernel) (by decide +kernel)
theorem k187 : Cond.selects RX0 yX0_get yX0_get ∈ wA := wa_ (i := 187) (by decide +kernel) (by decide +kernel)
theorem k188 : Cond.code yX0_get cX0_get 2 (some .int) ∈ wA := wa_ (i := 188) (by decide +kernel) (by decide +kernel)
theorem k189 : Cond.methodLink RL 56 yX0_turn ∈ wA := wa_ (i := 189) (by decide +kernel) (by decide +kernel)
theorem k190 : Cond.instanceMethod yX0_turn ∈ wA := wa_ (i := 190) (by decide +kernel) (by decide +kernel)
theorem k191 : Cond.selects RX0 yX0_turn yX0_turn ∈ wA := wa_ (i := 191) (by decide +kernel) (by decide +kernel)
theorem k192 : Cond.code yX0_turn cX0_turn 4 (some .int) ∈ wA := wa_ (i := 192) (by decide +kernel) (by decide +kernel)
theorem k193 : Cond.methodLink RL 60 yX0_find ∈ wA := wa_ (i := 193) (by decide +kernel) (by decide +kernel)
theorem k194 : Cond.instanceMethod yX0_find ∈ wA := wa_ (i := 194) (by decide +kernel) (by decide +kernel)
theorem k195 : Cond.selects RX0 yX0_find yX0_find ∈ wA := wa_ (i := 195) (by decide +kernel) (by decide +kernel)
theorem k196 : Cond.code yX0_find cX0_find 3 (some .int) ∈ wA := wa_ (i := 196) (by decide +kernel) (by decide +kernel)
theorem k197 : Cond.methodLink RX0 62 yX0_findBackward ∈ wA := wa_ (i := 197) (by decide +kernel) (by decide +kernel)
theorem k199 : Cond.instanceMethod yX0_findBackward ∈ wA := wa_ (i := 199) (by decide +kernel) (by decide +kernel)
theorem k200 : Cond.code yX0_findBackward cX0_findBackward 4 (some .int) ∈ wA := wa_ (i := 200) (by decide +kernel) (by decide +kernel)
theorem k201 : Cond.methodLink RX0 112 yX0_scrapStandsAt ∈ wA := wa_ (i := 201) (by decide +kernel) (by decide +kernel)
theorem k203 : Cond.instanceMethod yX0_scrapStandsAt ∈ wA := wa_ (i := 203) (by decide +kernel) (by decide +kernel)
theorem k204 : Cond.code yX0_scrapStandsAt cX0_scrapStandsAt 3 (some .boolean) ∈ wA := wa_ (i := 204) (by decide +kernel) (by decide +kernel)
theorem k205 : Cond.methodLink RX0 66 yX0_findForward ∈ wA := wa_ (i := 205) (by decide +kernel) (by decide +kernel)
theorem k207 : Cond.instanceMethod yX0_findForward ∈ wA := wa_ (i := 207) (by decide +kernel) (by decide +kernel)
theorem k208 : Cond.code yX0_findForward cX0_findForward 5 (some .int) ∈ wA := wa_ (i := 208) (by decide +kernel) (by decide +kernel)
theorem k209 : Cond.methodLink RX0 109 Lib.Math.max.name ∈ wA := wa_ (i := 209) (by decide +kernel) (by decide +kernel)
theorem k210 : Cond.static Lib.Math.max.name ∈ wA := wa_ (i := 210) (by decide +kernel) (by decide +kernel)
theorem k211 : Cond.code Lib.Math.max.name Lib.Math.max.code 2 (some .int) ∈ wA := wa_ (i := 211) (by decide +kernel) (by decide +kernel)
theorem k212 : Cond.methodLink RL 65 yX0_length ∈ wA := wa_ (i := 212) (by decide +kernel) (by decide +kernel)
theorem k213 : Cond.instanceMethod yX0_length ∈ wA := wa_ (i := 213) (by decide +kernel) (by decide +kernel)
theorem k214 : Cond.selects RX0 yX0_length yX0_length ∈ wA := wa_ (i := 214) (by decide +kernel) (by decide +kernel)
theorem k215 : Cond.code yX0_length cX0_length 3 (some .int) ∈ wA := wa_ (i := 215) (by decide +kernel) (by decide +kernel)
theorem k216 : Cond.methodLink RL 69 yX0_lift ∈ wA := wa_ (i := 216) (by decide +kernel) (by decide +kernel)
theorem k217 : Cond.instanceMethod yX0_lift ∈ wA := wa_ (i := 217) (by decide +kernel) (by decide +kernel)
theorem k218 : Cond.selects RX0 yX0_lift yX0_lift ∈ wA := wa_ (i := 218) (by decide +kernel) (by decide +kernel)
theorem k219 : Cond.code yX0_lift cX0_lift 4 (some .int) ∈ wA := wa_ (i := 219) (by decide +kernel) (by decide +kernel)
theorem k220 : Cond.methodLink RL 73 yX0_look ∈ wA := wa_ (i := 220) (by decide +kernel) (by decide +kernel)
theorem k221 : Cond.instanceMethod yX0_look ∈ wA := wa_ (i := 221) (by decide +kernel) (by decide +kernel)
theorem k222 : Cond.selects RX0 yX0_look yX0_look ∈ wA := wa_ (i := 222) (by decide +kernel) (by decide +kernel)
theorem k223 : Cond.code yX0_look cX0_look 2 (some .int) ∈ wA := wa_ (i := 223) (by decide +kernel) (by decide +kernel)
theorem k224 : Cond.methodLink RX0 75 yX0_sumOfText ∈ wA := wa_ (i := 224) (by decide +kernel) (by decide +kernel)
theorem k226 : Cond.instanceMethod yX0_sumOfText ∈ wA := wa_ (i := 226) (by decide +kernel) (by decide +kernel)
theorem k227 : Cond.code yX0_sumOfText cX0_sumOfText 3 (some .int) ∈ wA := wa_ (i := 227) (by decide +kernel) (by decide +kernel)
theorem k228 : Cond.methodLink RL 77 yX0_scrap ∈ wA := wa_ (i := 228) (by decide +kernel) (by decide +kernel)
theorem k229 : Cond.instanceMethod yX0_scrap ∈ wA := wa_ (i := 229) (by decide +kernel) (by decide +kernel)
theorem k230 : Cond.selects RX0 yX0_scrap yX0_scrap ∈ wA := wa_ (i := 230) (by decide +kernel) (by decide +kernel)
theorem k231 : Cond.code yX0_scrap cX0_scrap 2 (some .int) ∈ wA := wa_ (i := 231) (by decide +kernel) (by decide +kernel)
theorem k232 : Cond.methodLink RL 81 yX0_compare ∈ wA := wa_ (i := 232) (by decide +kernel) (by decide +kernel)
theorem k233 : Cond.instanceMethod yX0_compare ∈ wA := wa_ (i := 233) (by decide +kernel) (by decide +kernel)
theorem k234 : Cond.selects RX0 yX0_compare yX0_compare ∈ wA := wa_ (i := 234) (by decide +kernel) (by decide +kernel)
theorem k235 : Cond.code yX0_compare cX0_compare 3 (some .int) ∈ wA := wa_ (i := 235) (by decide +kernel) (by decide +kernel)
theorem k236 : Cond.methodLink RX0 79 yX0_order ∈ wA := wa_ (i := 236) (by decide +kernel) (by decide +kernel)
theorem k237 : Cond.static yX0_order ∈ wA := wa_ (i := 237) (by decide +kernel) (by decide +kernel)
theorem k238 : Cond.code yX0_order cX0_order 2 (some .int) ∈ wA := wa_ (i := 238) (by decide +kernel) (by decide +kernel)
theorem k239 : Cond.classLink RL 10 RX1 ∈ wA := wa_ (i := 239) (by decide +kernel) (by decide +kernel)
theorem k240 : Cond.instantiable RX1 6 ∈ wA := wa_ (i := 240) (by decide +kernel) (by decide +kernel)
theorem k241 : Cond.methodLink RL 12 yX1_init ∈ wA := wa_ (i := 241) (by decide +kernel) (by decide +kernel)
theorem k242 : Cond.instanceMethod yX1_init ∈ wA := wa_ (i := 242) (by decide +kernel) (by decide +kernel)
theorem k243 : Cond.code yX1_init cX1_init 1 none ∈ wA := wa_ (i := 243) (by decide +kernel) (by decide +kernel)
theorem k244 : Cond.methodLink RX1 1 objectInit ∈ wA := wa_ (i := 244) (by decide +kernel) (by decide +kernel)
theorem k245 : Cond.fieldLink RX1 9 "TextLoomModel" "text" "[I" ∈ wA := wa_ (i := 245) (by decide +kernel) (by decide +kernel)
theorem k246 : Cond.fieldLink RX1 13 "TextLoomModel" "scrap" "[I" ∈ wA := wa_ (i := 246) (by decide +kernel) (by decide +kernel)
theorem k247 : Cond.fieldLink RX1 16 "TextLoomModel" "digits" "[I" ∈ wA := wa_ (i := 247) (by decide +kernel) (by decide +kernel)
theorem k248 : Cond.fieldLink RX1 31 "TextLoomModel" "many" "I" ∈ wA := wa_ (i := 248) (by decide +kernel) (by decide +kernel)
theorem k249 : Cond.fieldLink RX1 38 "TextLoomModel" "notes" "I" ∈ wA := wa_ (i := 249) (by decide +kernel) (by decide +kernel)
theorem k250 : Cond.fieldLink RX1 25 "TextLoomModel" "digitMany" "I" ∈ wA := wa_ (i := 250) (by decide +kernel) (by decide +kernel)
theorem k264 : Cond.methodLink RL 17 yX1_note ∈ wA := wa_ (i := 264) (by decide +kernel) (by decide +kernel)
theorem k265 : Cond.instanceMethod yX1_note ∈ wA := wa_ (i := 265) (by decide +kernel) (by decide +kernel)
theorem k266 : Cond.selects RX1 yX1_note yX1_note ∈ wA := wa_ (i := 266) (by decide +kernel) (by decide +kernel)
theorem k267 : Cond.code yX1_note cX1_note 2 (some .int) ∈ wA := wa_ (i := 267) (by decide +kernel) (by decide +kernel)
theorem k268 : Cond.methodLink RX1 34 yX1_isSign ∈ wA := wa_ (i := 268) (by decide +kernel) (by decide +kernel)
theorem k269 : Cond.static yX1_isSign ∈ wA := wa_ (i := 269) (by decide +kernel) (by decide +kernel)
theorem k270 : Cond.code yX1_isSign cX1_isSign 2 (some .boolean) ∈ wA := wa_ (i := 270) (by decide +kernel) (by decide +kernel)
theorem k271 : Cond.constantLong RX1 19 65535 ∈ wA := wa_ (i := 271) (by decide +kernel) (by decide +kernel)
theorem k272 : Cond.constantLong RX1 21 55296 ∈ wA := wa_ (i := 272) (by decide +kernel) (by decide +kernel)
theorem k273 : Cond.constantLong RX1 23 57343 ∈ wA := wa_ (i := 273) (by decide +kernel) (by decide +kernel)
theorem k274 : Cond.methodLink RL 22 yX1_drop ∈ wA := wa_ (i := 274) (by decide +kernel) (by decide +kernel)
theorem k275 : Cond.instanceMethod yX1_drop ∈ wA := wa_ (i := 275) (by decide +kernel) (by decide +kernel)
theorem k276 : Cond.selects RX1 yX1_drop yX1_drop ∈ wA := wa_ (i := 276) (by decide +kernel) (by decide +kernel)
theorem k277 : Cond.code yX1_drop cX1_drop 2 (some .int) ∈ wA := wa_ (i := 277) (by decide +kernel) (by decide +kernel)
theorem k278 : Cond.methodLink RL 80 yX1_scrap ∈ wA := wa_ (i := 278) (by decide +kernel) (by decide +kernel)
theorem k279 : Cond.instanceMethod yX1_scrap ∈ wA := wa_ (i := 279) (by decide +kernel) (by decide +kernel)
theorem k280 : Cond.selects RX1 yX1_scrap yX1_scrap ∈ wA := wa_ (i := 280) (by decide +kernel) (by decide +kernel)
theorem k281 : Cond.code yX1_scrap cX1_scrap 2 (some .int) ∈ wA := wa_ (i := 281) (by decide +kernel) (by decide +kernel)
theorem k282 : Cond.methodLink RL 72 yX1_lift ∈ wA := wa_ (i := 282) (by decide +kernel) (by decide +kernel)
theorem k283 : Cond.instanceMethod yX1_lift ∈ wA := wa_ (i := 283) (by decide +kernel) (by decide +kernel)
theorem k284 : Cond.selects RX1 yX1_lift yX1_lift ∈ wA := wa_ (i := 284) (by decide +kernel) (by decide +kernel)
theorem k285 : Cond.code yX1_lift cX1_lift 4 (some .int) ∈ wA := wa_ (i := 285) (by decide +kernel) (by decide +kernel)
theorem k286 : Cond.methodLink RL 29 yX1_add ∈ wA := wa_ (i := 286) (by decide +kernel) (by decide +kernel)
theorem k287 : Cond.instanceMethod yX1_add ∈ wA := wa_ (i := 287) (by decide +kernel) (by decide +kernel)
theorem k288 : Cond.selects RX1 yX1_add yX1_add ∈ wA := wa_ (i := 288) (by decide +kernel) (by decide +kernel)
theorem k289 : Cond.code yX1_add cX1_add 4 (some .int) ∈ wA := wa_ (i := 289) (by decide +kernel) (by decide +kernel)
theorem k290 : Cond.methodLink RX1 55 yX1_digits ∈ wA := wa_ (i := 290) (by decide +kernel) (by decide +kernel)
theorem k292 : Cond.instanceMethod yX1_digits ∈ wA := wa_ (i := 292) (by decide +kernel) (by decide +kernel)
theorem k293 : Cond.code yX1_digits cX1_digits 6 none ∈ wA := wa_ (i := 293) (by decide +kernel) (by decide +kernel)
theorem k294 : Cond.constantLong RX1 29 10 ∈ wA := wa_ (i := 294) (by decide +kernel) (by decide +kernel)
theorem k295 : Cond.methodLink RX1 58 yX1_putDigits ∈ wA := wa_ (i := 295) (by decide +kernel) (by decide +kernel)
theorem k297 : Cond.instanceMethod yX1_putDigits ∈ wA := wa_ (i := 297) (by decide +kernel) (by decide +kernel)
theorem k298 : Cond.code yX1_putDigits cX1_putDigits 3 (some .int) ∈ wA := wa_ (i := 298) (by decide +kernel) (by decide +kernel)
theorem k299 : Cond.methodLink RX1 41 yX1_full ∈ wA := wa_ (i := 299) (by decide +kernel) (by decide +kernel)
theorem k301 : Cond.instanceMethod yX1_full ∈ wA := wa_ (i := 301) (by decide +kernel) (by decide +kernel)
theorem k302 : Cond.code yX1_full cX1_full 2 (some .boolean) ∈ wA := wa_ (i := 302) (by decide +kernel) (by decide +kernel)
theorem k303 : Cond.methodLink RX1 45 yX1_open ∈ wA := wa_ (i := 303) (by decide +kernel) (by decide +kernel)
theorem k305 : Cond.instanceMethod yX1_open ∈ wA := wa_ (i := 305) (by decide +kernel) (by decide +kernel)
theorem k306 : Cond.code yX1_open cX1_open 4 none ∈ wA := wa_ (i := 306) (by decide +kernel) (by decide +kernel)
theorem k307 : Cond.methodLink RX1 62 yX1_letters ∈ wA := wa_ (i := 307) (by decide +kernel) (by decide +kernel)
theorem k309 : Cond.instanceMethod yX1_letters ∈ wA := wa_ (i := 309) (by decide +kernel) (by decide +kernel)
theorem k310 : Cond.code yX1_letters cX1_letters 6 (some .int) ∈ wA := wa_ (i := 310) (by decide +kernel) (by decide +kernel)
theorem k311 : Cond.fieldLink RX1 49 "TextLoomModel" "YES" "[I" ∈ wA := wa_ (i := 311) (by decide +kernel) (by decide +kernel)
theorem k312 : Cond.laysStatic "TextLoomModel" "YES" "[I" ∈ lw_tbl := List.mem_of_getElem? (i := 312) (by decide +kernel)
theorem k313 : Cond.fieldLink RX1 52 "TextLoomModel" "NO" "[I" ∈ wA := wa_ (i := 313) (by decide +kernel) (by decide +kernel)
theorem k314 : Cond.laysStatic "TextLoomModel" "NO" "[I" ∈ lw_tbl := List.mem_of_getElem? (i := 314) (by decide +kernel)
theorem k315 : Cond.methodLink RX1 66 yX1_putScrap ∈ wA := wa_ (i := 315) (by decide +kernel) (by decide +kernel)
theorem k317 : Cond.instanceMethod yX1_putScrap ∈ wA := wa_ (i := 317) (by decide +kernel) (by decide +kernel)
theorem k318 : Cond.code yX1_putScrap cX1_putScrap 3 (some .int) ∈ wA := wa_ (i := 318) (by decide +kernel) (by decide +kernel)
theorem k319 : Cond.methodLink RL 34 yX1_insert ∈ wA := wa_ (i := 319) (by decide +kernel) (by decide +kernel)
theorem k320 : Cond.instanceMethod yX1_insert ∈ wA := wa_ (i := 320) (by decide +kernel) (by decide +kernel)
theorem k321 : Cond.selects RX1 yX1_insert yX1_insert ∈ wA := wa_ (i := 321) (by decide +kernel) (by decide +kernel)
theorem k322 : Cond.code yX1_insert cX1_insert 5 (some .int) ∈ wA := wa_ (i := 322) (by decide +kernel) (by decide +kernel)
theorem k323 : Cond.methodLink RL 39 yX1_cut ∈ wA := wa_ (i := 323) (by decide +kernel) (by decide +kernel)
theorem k324 : Cond.instanceMethod yX1_cut ∈ wA := wa_ (i := 324) (by decide +kernel) (by decide +kernel)
theorem k325 : Cond.selects RX1 yX1_cut yX1_cut ∈ wA := wa_ (i := 325) (by decide +kernel) (by decide +kernel)
theorem k326 : Cond.code yX1_cut cX1_cut 3 (some .int) ∈ wA := wa_ (i := 326) (by decide +kernel) (by decide +kernel)
theorem k327 : Cond.methodLink RX1 69 yX1_close ∈ wA := wa_ (i := 327) (by decide +kernel) (by decide +kernel)
theorem k329 : Cond.instanceMethod yX1_close ∈ wA := wa_ (i := 329) (by decide +kernel) (by decide +kernel)
theorem k330 : Cond.code yX1_close cX1_close 5 none ∈ wA := wa_ (i := 330) (by decide +kernel) (by decide +kernel)
theorem k331 : Cond.methodLink RL 43 yX1_swap ∈ wA := wa_ (i := 331) (by decide +kernel) (by decide +kernel)
theorem k332 : Cond.instanceMethod yX1_swap ∈ wA := wa_ (i := 332) (by decide +kernel) (by decide +kernel)
theorem k333 : Cond.selects RX1 yX1_swap yX1_swap ∈ wA := wa_ (i := 333) (by decide +kernel) (by decide +kernel)
theorem k334 : Cond.code yX1_swap cX1_swap 4 (some .int) ∈ wA := wa_ (i := 334) (by decide +kernel) (by decide +kernel)
theorem k335 : Cond.methodLink RL 47 yX1_take ∈ wA := wa_ (i := 335) (by decide +kernel) (by decide +kernel)
theorem k336 : Cond.instanceMethod yX1_take ∈ wA := wa_ (i := 336) (by decide +kernel) (by decide +kernel)
theorem k337 : Cond.selects RX1 yX1_take yX1_take ∈ wA := wa_ (i := 337) (by decide +kernel) (by decide +kernel)
theorem k338 : Cond.code yX1_take cX1_take 3 (some .int) ∈ wA := wa_ (i := 338) (by decide +kernel) (by decide +kernel)
theorem k339 : Cond.methodLink RL 51 yX1_set ∈ wA := wa_ (i := 339) (by decide +kernel) (by decide +kernel)
theorem k340 : Cond.instanceMethod yX1_set ∈ wA := wa_ (i := 340) (by decide +kernel) (by decide +kernel)
theorem k341 : Cond.selects RX1 yX1_set yX1_set ∈ wA := wa_ (i := 341) (by decide +kernel) (by decide +kernel)
theorem k342 : Cond.code yX1_set cX1_set 4 (some .int) ∈ wA := wa_ (i := 342) (by decide +kernel) (by decide +kernel)
theorem k343 : Cond.methodLink RL 55 yX1_get ∈ wA := wa_ (i := 343) (by decide +kernel) (by decide +kernel)
theorem k344 : Cond.instanceMethod yX1_get ∈ wA := wa_ (i := 344) (by decide +kernel) (by decide +kernel)
theorem k345 : Cond.selects RX1 yX1_get yX1_get ∈ wA := wa_ (i := 345) (by decide +kernel) (by decide +kernel)
theorem k346 : Cond.code yX1_get cX1_get 2 (some .int) ∈ wA := wa_ (i := 346) (by decide +kernel) (by decide +kernel)
theorem k347 : Cond.methodLink RL 59 yX1_turn ∈ wA := wa_ (i := 347) (by decide +kernel) (by decide +kernel)
theorem k348 : Cond.instanceMethod yX1_turn ∈ wA := wa_ (i := 348) (by decide +kernel) (by decide +kernel)
theorem k349 : Cond.selects RX1 yX1_turn yX1_turn ∈ wA := wa_ (i := 349) (by decide +kernel) (by decide +kernel)
theorem k350 : Cond.code yX1_turn cX1_turn 3 (some .int) ∈ wA := wa_ (i := 350) (by decide +kernel) (by decide +kernel)
theorem k351 : Cond.methodLink RL 68 yX1_length ∈ wA := wa_ (i := 351) (by decide +kernel) (by decide +kernel)
theorem k352 : Cond.instanceMethod yX1_length ∈ wA := wa_ (i := 352) (by decide +kernel) (by decide +kernel)
theorem k353 : Cond.selects RX1 yX1_length yX1_length ∈ wA := wa_ (i := 353) (by decide +kernel) (by decide +kernel)
theorem k354 : Cond.code yX1_length cX1_length 3 (some .int) ∈ wA := wa_ (i := 354) (by decide +kernel) (by decide +kernel)
theorem k355 : Cond.methodLink RL 64 yX1_find ∈ wA := wa_ (i := 355) (by decide +kernel) (by decide +kernel)
theorem k356 : Cond.instanceMethod yX1_find ∈ wA := wa_ (i := 356) (by decide +kernel) (by decide +kernel)
theorem k357 : Cond.selects RX1 yX1_find yX1_find ∈ wA := wa_ (i := 357) (by decide +kernel) (by decide +kernel)
theorem k358 : Cond.code yX1_find cX1_find 4 (some .int) ∈ wA := wa_ (i := 358) (by decide +kernel) (by decide +kernel)
theorem k359 : Cond.methodLink RX1 72 yX1_stands ∈ wA := wa_ (i := 359) (by decide +kernel) (by decide +kernel)
theorem k361 : Cond.instanceMethod yX1_stands ∈ wA := wa_ (i := 361) (by decide +kernel) (by decide +kernel)
theorem k362 : Cond.code yX1_stands cX1_stands 3 (some .boolean) ∈ wA := wa_ (i := 362) (by decide +kernel) (by decide +kernel)
theorem k363 : Cond.methodLink RL 76 yX1_look ∈ wA := wa_ (i := 363) (by decide +kernel) (by decide +kernel)
theorem k364 : Cond.instanceMethod yX1_look ∈ wA := wa_ (i := 364) (by decide +kernel) (by decide +kernel)
theorem k365 : Cond.selects RX1 yX1_look yX1_look ∈ wA := wa_ (i := 365) (by decide +kernel) (by decide +kernel)
theorem k366 : Cond.code yX1_look cX1_look 4 (some .int) ∈ wA := wa_ (i := 366) (by decide +kernel) (by decide +kernel)
theorem k367 : Cond.methodLink RL 84 yX1_compare ∈ wA := wa_ (i := 367) (by decide +kernel) (by decide +kernel)
theorem k368 : Cond.instanceMethod yX1_compare ∈ wA := wa_ (i := 368) (by decide +kernel) (by decide +kernel)
theorem k369 : Cond.selects RX1 yX1_compare yX1_compare ∈ wA := wa_ (i := 369) (by decide +kernel) (by decide +kernel)
theorem k370 : Cond.code yX1_compare cX1_compare 2 (some .int) ∈ wA := wa_ (i := 370) (by decide +kernel) (by decide +kernel)
theorem k371 : Cond.constantLong RL 23 4294967295 ∈ wA := wa_ (i := 371) (by decide +kernel) (by decide +kernel)
theorem k372 : Cond.fieldLink RJ0 9 "java/lang/String" "value" "[B" ∈ wA := wa_ (i := 372) (by decide +kernel) (by decide +kernel)
theorem k373 : Cond.fieldLink RJ0 15 "java/lang/String" "coder" "B" ∈ wA := wa_ (i := 373) (by decide +kernel) (by decide +kernel)
theorem inX0 : ∀ w ∈ u_ws RX0 TX0 4, w ∈ wA := by decide +kernel
theorem inX1 : ∀ w ∈ u_ws RX1 TX1 6, w ∈ wA := by decide +kernel
def wsX0_init : List Cond := .code yX0_init cX0_init 1 none :: wA
def wsX0_note : List Cond := .code yX0_note cX0_note 2 (some .int) :: wA
def wsX0_isSign : List Cond := .code yX0_isSign cX0_isSign 2 (some .boolean) :: wA
def wsX0_drop : List Cond := .code yX0_drop cX0_drop 2 (some .int) :: wA
def wsX0_add : List Cond := .code yX0_add cX0_add 4 (some .int) :: wA
def wsX0_putDigits : List Cond := .code yX0_putDigits cX0_putDigits 9 (some .int) :: wA
def wsX0_countDigits : List Cond := .code yX0_countDigits cX0_countDigits 5 (some .int) :: wA
def wsX0_hasRoom : List Cond := .code yX0_hasRoom cX0_hasRoom 2 (some .boolean) :: wA
def wsX0_makeGap : List Cond := .code yX0_makeGap cX0_makeGap 4 none :: wA
def wsX0_putWord : List Cond := .code yX0_putWord cX0_putWord 5 (some .int) :: wA
def wsJ0_length_8abf5 : List Cond := .code yJ0_length_8abf5 cJ0_length_8abf5 1 (some .int) :: wA
def wsJ0_coder_7d493 : List Cond := .code yJ0_coder_7d493 cJ0_coder_7d493 1 (some .byte) :: wA
def wsJ0_charAt_5068e : List Cond := .code yJ0_charAt_5068e cJ0_charAt_5068e 2 (some .char) :: wA
def wsJ0_isLatin1_aae02 : List Cond := .code yJ0_isLatin1_aae02 cJ0_isLatin1_aae02 1 (some .boolean) :: wA
def wsJ1_charAt_3b067 : List Cond := .code yJ1_charAt_3b067 cJ1_charAt_3b067 2 (some .char) :: wA
def wsJ0_checkIndex_df160 : List Cond := .code yJ0_checkIndex_df160 cJ0_checkIndex_df160 2 none :: wA
def wsJ3_checkIndex_8e157 : List Cond := .code yJ3_checkIndex_8e157 cJ3_checkIndex_8e157 3 (some .int) :: wA
def wsJ2_charAt_3b067 : List Cond := .code yJ2_charAt_3b067 cJ2_charAt_3b067 2 (some .char) :: wA
def wsJ2_checkIndex_2214a : List Cond := .code yJ2_checkIndex_2214a cJ2_checkIndex_2214a 2 none :: wA
def wsJ2_length_9d52b : List Cond := .code yJ2_length_9d52b cJ2_length_9d52b 1 (some .int) :: wA
def wsJ2_getChar_3b067 : List Cond := .code yJ2_getChar_3b067 cJ2_getChar_3b067 2 (some .char) :: wA
def wsX0_putScrap : List Cond := .code yX0_putScrap cX0_putScrap 3 (some .int) :: wA
def wsX0_putSign : List Cond := .code yX0_putSign cX0_putSign 3 (some .int) :: wA
def wsX0_insert : List Cond := .code yX0_insert cX0_insert 5 (some .int) :: wA
def wsX0_isPlaceOrEnd : List Cond := .code yX0_isPlaceOrEnd cX0_isPlaceOrEnd 2 (some .boolean) :: wA
def wsX0_cut : List Cond := .code yX0_cut cX0_cut 3 (some .int) :: wA
def wsX0_swap : List Cond := .code yX0_swap cX0_swap 3 (some .int) :: wA
def wsX0_take : List Cond := .code yX0_take cX0_take 3 (some .int) :: wA
def wsX0_isPlace : List Cond := .code yX0_isPlace cX0_isPlace 2 (some .boolean) :: wA
def wsX0_set : List Cond := .code yX0_set cX0_set 4 (some .int) :: wA
def wsX0_get : List Cond := .code yX0_get cX0_get 2 (some .int) :: wA
def wsX0_turn : List Cond := .code yX0_turn cX0_turn 4 (some .int) :: wA
def wsX0_find : List Cond := .code yX0_find cX0_find 3 (some .int) :: wA
def wsX0_findBackward : List Cond := .code yX0_findBackward cX0_findBackward 4 (some .int) :: wA
def wsX0_scrapStandsAt : List Cond := .code yX0_scrapStandsAt cX0_scrapStandsAt 3 (some .boolean) :: wA
def wsX0_findForward : List Cond := .code yX0_findForward cX0_findForward 5 (some .int) :: wA
def wsX0_length : List Cond := .code yX0_length cX0_length 3 (some .int) :: wA
def wsX0_lift : List Cond := .code yX0_lift cX0_lift 4 (some .int) :: wA
def wsX0_look : List Cond := .code yX0_look cX0_look 2 (some .int) :: wA
def wsX0_sumOfText : List Cond := .code yX0_sumOfText cX0_sumOfText 3 (some .int) :: wA
def wsX0_scrap : List Cond := .code yX0_scrap cX0_scrap 2 (some .int) :: wA
def wsX0_compare : List Cond := .code yX0_compare cX0_compare 3 (some .int) :: wA
def wsX0_order : List Cond := .code yX0_order cX0_order 2 (some .int) :: wA
def wsX1_init : List Cond := .code yX1_init cX1_init 1 none :: wA
def wsX1_note : List Cond := .code yX1_note cX1_note 2 (some .int) :: wA
def wsX1_isSign : List Cond := .code yX1_isSign cX1_isSign 2 (some .boolean) :: wA
def wsX1_drop : List Cond := .code yX1_drop cX1_drop 2 (some .int) :: wA
def wsX1_scrap : List Cond := .code yX1_scrap cX1_scrap 2 (some .int) :: wA
def wsX1_lift : List Cond := .code yX1_lift cX1_lift 4 (some .int) :: wA
def wsX1_add : List Cond := .code yX1_add cX1_add 4 (some .int) :: wA
def wsX1_digits : List Cond := .code yX1_digits cX1_digits 6 none :: wA
def wsX1_putDigits : List Cond := .code yX1_putDigits cX1_putDigits 3 (some .int) :: wA
def wsX1_full : List Cond := .code yX1_full cX1_full 2 (some .boolean) :: wA
def wsX1_open : List Cond := .code yX1_open cX1_open 4 none :: wA
def wsX1_letters : List Cond := .code yX1_letters cX1_letters 6 (some .int) :: wA
def wsX1_putScrap : List Cond := .code yX1_putScrap cX1_putScrap 3 (some .int) :: wA
def wsX1_insert : List Cond := .code yX1_insert cX1_insert 5 (some .int) :: wA
def wsX1_cut : List Cond := .code yX1_cut cX1_cut 3 (some .int) :: wA
def wsX1_close : List Cond := .code yX1_close cX1_close 5 none :: wA
def wsX1_swap : List Cond := .code yX1_swap cX1_swap 4 (some .int) :: wA
def wsX1_take : List Cond := .code yX1_take cX1_take 3 (some .int) :: wA
def wsX1_set : List Cond := .code yX1_set cX1_set 4 (some .int) :: wA
def wsX1_get : List Cond := .code yX1_get cX1_get 2 (some .int) :: wA
def wsX1_turn : List Cond := .code yX1_turn cX1_turn 3 (some .int) :: wA
def wsX1_length : List Cond := .code yX1_length cX1_length 3 (some .int) :: wA
def wsX1_find : List Cond := .code yX1_find cX1_find 4 (some .int) :: wA
def wsX1_stands : List Cond := .code yX1_stands cX1_stands 3 (some .boolean) :: wA
def wsX1_look : List Cond := .code yX1_look cX1_look 4 (some .int) :: wA
def wsX1_compare : List Cond := .code yX1_compare cX1_compare 2 (some .int) :: wA
