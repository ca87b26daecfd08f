/-! names: classes, fields, methods; the words bw that every method is given; which words are there (by place in the tables) -/
def RX0 : String := "LineMill"
def TX0 : u_T := fun k => match k with
  | 0 => ("LineMill", "text", "[J", true)
  | 1 => ("LineMill", "tokens", "[J", true)
  | 2 => ("LineMill", "length", "I", false)
  | 3 => ("LineMill", "at", "I", false)
  | 4 => ("LineMill", "line", "I", false)
  | 5 => ("LineMill", "tokenLines", "I", false)
  | 6 => ("LineMill", "openQuotes", "I", false)
  | 7 => ("LineMill", "faultLine", "I", false)
  | 8 => ("LineMill", "stopped", "Z", false)
  | 9 => ("LineMill", "count", "I", false)
  | 10 => ("LineMill", "found", "I", false)
  | 11 => ("LineMill", "before", "Z", false)
  | 12 => ("LineMill", "firstLine", "I", false)
  | 13 => ("LineMill", "excessLine", "I", false)
  | 14 => ("LineMill", "openTextsUpTo", "I", false)
  | _ => ("LineMill", "openCharactersUpTo", "I", false)
def tyX0 : Nat → FieldType := fun k => match k with
  | 0 => .array .long
  | 1 => .array .long
  | 2 => .int
  | 3 => .int
  | 4 => .int
  | 5 => .int
  | 6 => .int
  | 7 => .int
  | 8 => .boolean
  | 9 => .int
  | 10 => .int
  | 11 => .boolean
  | 12 => .int
  | 13 => .int
  | 14 => .int
  | _ => .int
theorem nmX0 : ∀ a, a < 16 → ∀ b, b < 16 → a ≠ b → (TX0 a).2.1 ≠ (TX0 b).2.1 := by decide +kernel
theorem okX0 : ∀ k, k < 16 → parseFieldDescriptor (TX0 k).2.2.1 = some (tyX0 k) := by decide +kernel
def RX1 : String := "LineMillModel"
def TX1 : u_T := fun k => match k with
  | 0 => ("LineMillModel", "textSize", "I", false)
  | 1 => ("LineMillModel", "text", "[B", true)
  | 2 => ("LineMillModel", "place", "I", false)
  | 3 => ("LineMillModel", "placeLine", "I", false)
  | 4 => ("LineMillModel", "stopped", "Z", false)
  | 5 => ("LineMillModel", "faultLine", "I", false)
  | 6 => ("LineMillModel", "lines", "I", false)
  | 7 => ("LineMillModel", "noEnds", "I", false)
  | 8 => ("LineMillModel", "left", "I", false)
  | 9 => ("LineMillModel", "store", "[B", true)
  | 10 => ("LineMillModel", "rawOf", "[I", true)
  | 11 => ("LineMillModel", "lineOf", "[I", true)
  | 12 => ("LineMillModel", "endLine", "I", false)
  | 13 => ("LineMillModel", "count", "I", false)
  | 14 => ("LineMillModel", "tokenAt", "[I", true)
  | 15 => ("LineMillModel", "tokenSize", "[I", true)
  | 16 => ("LineMillModel", "tokenLine", "[I", true)
  | 17 => ("LineMillModel", "tokenBefore", "[Z", true)
  | 18 => ("LineMillModel", "spelled", "I", false)
  | _ => ("LineMillModel", "spellings", "[B", true)
def tyX1 : Nat → FieldType := fun k => match k with
  | 0 => .int
  | 1 => .array .byte
  | 2 => .int
  | 3 => .int
  | 4 => .boolean
  | 5 => .int
  | 6 => .int
  | 7 => .int
  | 8 => .int
  | 9 => .array .byte
  | 10 => .array .int
  | 11 => .array .int
  | 12 => .int
  | 13 => .int
  | 14 => .array .int
  | 15 => .array .int
  | 16 => .array .int
  | 17 => .array .boolean
  | 18 => .int
  | _ => .array .byte
theorem nmX1 : ∀ a, a < 20 → ∀ b, b < 20 → a ≠ b → (TX1 a).2.1 ≠ (TX1 b).2.1 := by decide +kernel
theorem okX1 : ∀ k, k < 20 → parseFieldDescriptor (TX1 k).2.2.1 = some (tyX1 k) := by decide +kernel
def RJ0 : String := "java/lang/String"
def RJ1 : String := "java/lang/StringLatin1"
def RJ2 : String := "java/lang/StringUTF16"
def RJ3 : String := "jdk/internal/util/Preconditions"
def RL : String := "LineMillLaw"
abbrev cX0_init : ByteArray := prog_1_method_1_code
def yX0_init : MethodName := ⟨RX0, "<init>", "()V"⟩
abbrev cX0_restart : ByteArray := prog_1_method_10_code
def yX0_restart : MethodName := ⟨RX0, "restart", "()V"⟩
abbrev cX0_feed : ByteArray := prog_1_method_2_code
def yX0_feed : MethodName := ⟨RX0, "feed", "(JI)I"⟩
abbrev cX0_append : ByteArray := prog_1_method_11_code
def yX0_append : MethodName := ⟨RX0, "append", "(I)V"⟩
abbrev cX0_again : ByteArray := prog_1_method_3_code
def yX0_again : MethodName := ⟨RX0, "again", "(II)I"⟩
abbrev cX0_byteAt : ByteArray := prog_1_method_12_code
def yX0_byteAt : MethodName := ⟨RX0, "byteAt", "(I)I"⟩
abbrev cX0_clear : ByteArray := prog_1_method_4_code
def yX0_clear : MethodName := ⟨RX0, "clear", "()I"⟩
abbrev cX0_begin : ByteArray := prog_1_method_5_code
def yX0_begin : MethodName := ⟨RX0, "begin", "()V"⟩
abbrev cX0_next : ByteArray := prog_1_method_6_code
def yX0_next : MethodName := ⟨RX0, "next", "()I"⟩
abbrev cX0_leftFrom : ByteArray := prog_1_method_13_code
def yX0_leftFrom : MethodName := ⟨RX0, "leftFrom", "(I)I"⟩
abbrev cX0_pass : ByteArray := prog_1_method_14_code
def yX0_pass : MethodName := ⟨RX0, "pass", "(I)I"⟩
abbrev cX0_openLine : ByteArray := prog_1_method_15_code
def yX0_openLine : MethodName := ⟨RX0, "openLine", "()V"⟩
abbrev cX0_cutPiece : ByteArray := prog_1_method_18_code
def yX0_cutPiece : MethodName := ⟨RX0, "cutPiece", "()I"⟩
abbrev cX0_passBlank : ByteArray := prog_1_method_19_code
def yX0_passBlank : MethodName := ⟨RX0, "passBlank", "(I)I"⟩
abbrev cX0_isBlank : ByteArray := prog_1_method_37_code
def yX0_isBlank : MethodName := ⟨RX0, "isBlank", "(I)Z"⟩
abbrev cX0_passComment : ByteArray := prog_1_method_20_code
def yX0_passComment : MethodName := ⟨RX0, "passComment", "(I)I"⟩
abbrev cX0_commentEnd : ByteArray := prog_1_method_25_code
def yX0_commentEnd : MethodName := ⟨RX0, "commentEnd", "(I)I"⟩
abbrev cX0_stopAt : ByteArray := prog_1_method_17_code
def yX0_stopAt : MethodName := ⟨RX0, "stopAt", "(II)I"⟩
abbrev cX0_lineEnd : ByteArray := prog_1_method_26_code
def yX0_lineEnd : MethodName := ⟨RX0, "lineEnd", "(I)I"⟩
abbrev cX0_isQuote : ByteArray := prog_1_method_38_code
def yX0_isQuote : MethodName := ⟨RX0, "isQuote", "(I)Z"⟩
abbrev cX0_cutQuote : ByteArray := prog_1_method_21_code
def yX0_cutQuote : MethodName := ⟨RX0, "cutQuote", "(I)I"⟩
abbrev cX0_quoteEnd : ByteArray := prog_1_method_27_code
def yX0_quoteEnd : MethodName := ⟨RX0, "quoteEnd", "(II)I"⟩
abbrev cX0_kindOfQuote : ByteArray := prog_1_method_39_code
def yX0_kindOfQuote : MethodName := ⟨RX0, "kindOfQuote", "(I)I"⟩
abbrev cX0_addToken : ByteArray := prog_1_method_24_code
def yX0_addToken : MethodName := ⟨RX0, "addToken", "(II)I"⟩
abbrev cX0_cutWide : ByteArray := prog_1_method_22_code
def yX0_cutWide : MethodName := ⟨RX0, "cutWide", "(II)I"⟩
abbrev cX0_isLetter : ByteArray := prog_1_method_35_code
def yX0_isLetter : MethodName := ⟨RX0, "isLetter", "(I)Z"⟩
abbrev cX0_nameEnd : ByteArray := prog_1_method_28_code
def yX0_nameEnd : MethodName := ⟨RX0, "nameEnd", "(I)I"⟩
abbrev cX0_isDigit : ByteArray := prog_1_method_36_code
def yX0_isDigit : MethodName := ⟨RX0, "isDigit", "(I)Z"⟩
abbrev cX0_numberEnd : ByteArray := prog_1_method_29_code
def yX0_numberEnd : MethodName := ⟨RX0, "numberEnd", "(II)I"⟩
abbrev cX0_goesOnNumber : ByteArray := prog_1_method_34_code
def yX0_goesOnNumber : MethodName := ⟨RX0, "goesOnNumber", "(II)Z"⟩
abbrev cX0_cutSign : ByteArray := prog_1_method_23_code
def yX0_cutSign : MethodName := ⟨RX0, "cutSign", "(III)I"⟩
abbrev cX0_hasSign : ByteArray := prog_1_method_40_code
def yX0_hasSign : MethodName := ⟨RX0, "hasSign", "(Ljava/lang/String;IIII)Z"⟩
abbrev cJ0_length : ByteArray := prog_4_method_54_code
def yJ0_length : MethodName := ⟨RJ0, "length", "()I"⟩
abbrev cJ0_coder : ByteArray := prog_4_method_152_code
def yJ0_coder : MethodName := ⟨RJ0, "coder", "()B"⟩
abbrev cJ0_charAt : ByteArray := prog_4_method_56_code
def yJ0_charAt : MethodName := ⟨RJ0, "charAt", "(I)C"⟩
abbrev cJ0_isLatin1 : ByteArray := prog_4_method_154_code
def yJ0_isLatin1 : MethodName := ⟨RJ0, "isLatin1", "()Z"⟩
abbrev cJ1_charAt : ByteArray := prog_5_method_2_code
def yJ1_charAt : MethodName := ⟨RJ1, "charAt", "([BI)C"⟩
abbrev cJ0_checkIndex : ByteArray := prog_4_method_155_code
def yJ0_checkIndex : MethodName := ⟨RJ0, "checkIndex", "(II)V"⟩
abbrev cJ3_checkIndex : ByteArray := prog_7_method_11_code
def yJ3_checkIndex : MethodName := ⟨RJ3, "checkIndex", "(IILjava/util/function/BiFunction;)I"⟩
abbrev cJ2_charAt : ByteArray := prog_6_method_83_code
def yJ2_charAt : MethodName := ⟨RJ2, "charAt", "([BI)C"⟩
abbrev cJ2_checkIndex : ByteArray := prog_6_method_91_code
def yJ2_checkIndex : MethodName := ⟨RJ2, "checkIndex", "(I[B)V"⟩
abbrev cJ2_length : ByteArray := prog_6_method_6_code
def yJ2_length : MethodName := ⟨RJ2, "length", "([B)I"⟩
abbrev cJ2_getChar : ByteArray := prog_6_method_5_code
def yJ2_getChar : MethodName := ⟨RJ2, "getChar", "([BI)C"⟩
abbrev cX0_closeLine : ByteArray := prog_1_method_16_code
def yX0_closeLine : MethodName := ⟨RX0, "closeLine", "()I"⟩
abbrev cX0_told : ByteArray := prog_1_method_7_code
def yX0_told : MethodName := ⟨RX0, "told", "(I)I"⟩
abbrev cX0_isDirective : ByteArray := prog_1_method_31_code
def yX0_isDirective : MethodName := ⟨RX0, "isDirective", "()Z"⟩
abbrev cX0_isAtHand : ByteArray := prog_1_method_30_code
def yX0_isAtHand : MethodName := ⟨RX0, "isAtHand", "(I)Z"⟩
abbrev cX0_bytesOf : ByteArray := prog_1_method_33_code
def yX0_bytesOf : MethodName := ⟨RX0, "bytesOf", "(J)I"⟩
abbrev cX0_startOf : ByteArray := prog_1_method_32_code
def yX0_startOf : MethodName := ⟨RX0, "startOf", "(J)I"⟩
abbrev cX0_token : ByteArray := prog_1_method_8_code
def yX0_token : MethodName := ⟨RX0, "token", "(II)I"⟩
abbrev cX0_spelling : ByteArray := prog_1_method_9_code
def yX0_spelling : MethodName := ⟨RX0, "spelling", "(II)J"⟩
abbrev cX1_init : ByteArray := prog_3_method_1_code
def yX1_init : MethodName := ⟨RX1, "<init>", "()V"⟩
abbrev cX1_begin : ByteArray := prog_3_method_5_code
def yX1_begin : MethodName := ⟨RX1, "begin", "()V"⟩
abbrev cX1_feed : ByteArray := prog_3_method_2_code
def yX1_feed : MethodName := ⟨RX1, "feed", "(JI)I"⟩
abbrev cX1_again : ByteArray := prog_3_method_3_code
def yX1_again : MethodName := ⟨RX1, "again", "(II)I"⟩
abbrev cX1_clear : ByteArray := prog_3_method_4_code
def yX1_clear : MethodName := ⟨RX1, "clear", "()I"⟩
abbrev cX1_next : ByteArray := prog_3_method_18_code
def yX1_next : MethodName := ⟨RX1, "next", "()I"⟩
abbrev cX1_layDown : ByteArray := prog_3_method_14_code
def yX1_layDown : MethodName := ⟨RX1, "layDown", "()V"⟩
abbrev cX1_byteAt : ByteArray := prog_3_method_9_code
def yX1_byteAt : MethodName := ⟨RX1, "byteAt", "([BII)I"⟩
abbrev cX1_isBlank : ByteArray := prog_3_method_8_code
def yX1_isBlank : MethodName := ⟨RX1, "isBlank", "(I)Z"⟩
abbrev cX1_commentEnd : ByteArray := prog_3_method_16_code
def yX1_commentEnd : MethodName := ⟨RX1, "commentEnd", "(I)I"⟩
abbrev cX1_stop : ByteArray := prog_3_method_15_code
def yX1_stop : MethodName := ⟨RX1, "stop", "(II)I"⟩
abbrev cX1_tokenSizeAt : ByteArray := prog_3_method_13_code
def yX1_tokenSizeAt : MethodName := ⟨RX1, "tokenSizeAt", "(II)I"⟩
abbrev cX1_quotedEnd : ByteArray := prog_3_method_10_code
def yX1_quotedEnd : MethodName := ⟨RX1, "quotedEnd", "(II)I"⟩
abbrev cX1_isLetter : ByteArray := prog_3_method_6_code
def yX1_isLetter : MethodName := ⟨RX1, "isLetter", "(I)Z"⟩
abbrev cX1_isDigit : ByteArray := prog_3_method_7_code
def yX1_isDigit : MethodName := ⟨RX1, "isDigit", "(I)Z"⟩
abbrev cX1_isOneOf : ByteArray := prog_3_method_11_code
def yX1_isOneOf : MethodName := ⟨RX1, "isOneOf", "(ILjava/lang/String;)Z"⟩
abbrev cX1_signSize : ByteArray := prog_3_method_12_code
def yX1_signSize : MethodName := ⟨RX1, "signSize", "(II)I"⟩
abbrev cX1_keep : ByteArray := prog_3_method_17_code
def yX1_keep : MethodName := ⟨RX1, "keep", "(IIZ)V"⟩
abbrev cX1_told : ByteArray := prog_3_method_19_code
def yX1_told : MethodName := ⟨RX1, "told", "(I)I"⟩
abbrev cX1_token : ByteArray := prog_3_method_22_code
def yX1_token : MethodName := ⟨RX1, "token", "(II)I"⟩
abbrev cX1_kindOf : ByteArray := prog_3_method_21_code
def yX1_kindOf : MethodName := ⟨RX1, "kindOf", "(I)I"⟩
abbrev cX1_byteOf : ByteArray := prog_3_method_20_code
def yX1_byteOf : MethodName := ⟨RX1, "byteOf", "(II)I"⟩
abbrev cX1_spelling : ByteArray := prog_3_method_23_code
def yX1_spelling : MethodName := ⟨RX1, "spelling", "(II)J"⟩
abbrev vwCl : List vw_C := [(RX0, TX0, 16), (RX1, TX1, 20)]
def bw : List Cond := lw_tbl.filter (fun w => goodWord w)
theorem bw_t {w : Cond} (h : w ∈ tables_1) (hg : goodWord w = true) : w ∈ bw := List.mem_filter.mpr ⟨List.mem_append_right _ h, hg⟩
theorem bw_p {w : Cond} (i : Nat) (h : (k2_sels lw_privs)[i]? = some w) (hg : goodWord w = true) : w ∈ bw := List.mem_filter.mpr ⟨List.mem_append_left _ (List.mem_of_getElem? h), hg⟩
theorem t_1 {w : Cond} (i : Nat) (h : tables_1_1[i]? = some w) : w ∈ tables_1 := List.mem_append_left _ (List.mem_of_getElem? h)
theorem t_2 {w : Cond} (i : Nat) (h : tables_1_2[i]? = some w) : w ∈ tables_1 := List.mem_append_right _ (List.mem_of_getElem? h)
theorem bw_in {w : Cond} (h : w ∈ bw) : w ∈ lw_tbl := (List.mem_filter.mp h).1
theorem bw_good {w : Cond} (h : w ∈ bw) : (w.onTables && w.keeps) = true ∨ ∃ ty, w = .arrayClass ty := good_of_word (List.mem_filter.mp h).2
theorem gC {Ts : List Cond} (hT : ∀ w ∈ bw, w ∈ Ts) {w0 : Cond} (h0 : w0 ∈ bw) : GoodIn Ts (w0 :: bw) := fun w h => (List.mem_cons.mp h).elim (fun e => by rw [e]; exact ⟨hT _ h0, bw_good h0⟩) (fun h => ⟨hT _ h, bw_good h⟩)
theorem gV {Ts : List Cond} (hT : ∀ w ∈ bw, w ∈ Ts) {own C : String} {idx n : Nat} {y : MethodName} {c : ByteArray} {r : Option FieldType} (h1 : Cond.methodLink own idx y ∈ bw) (h2 : Cond.instanceMethod y ∈ bw) (h3 : Cond.selects C y y ∈ bw) (h4 : Cond.initialized C ∈ bw) (h5 : Cond.code y c n r ∈ bw) : GoodIn Ts (wsV own idx C y (Cond.code y c n r :: bw)) := by
  intro w h
  unfold wsV at h
  rcases List.mem_append.mp h with h | h
  · have hw : w ∈ bw := by
      rcases List.mem_cons.mp h with rfl | h
      · exact h1
      rcases List.mem_cons.mp h with rfl | h
      · exact h2
      rcases List.mem_cons.mp h with rfl | h
      · exact h3
      rcases List.mem_cons.mp h with rfl | h
      · exact h4
      cases h
    exact ⟨hT w hw, bw_good hw⟩
  · exact gC hT h5 w h
theorem gS {Ts : List Cond} (hT : ∀ w ∈ bw, w ∈ Ts) {own : String} {idx n : Nat} {y : MethodName} {c : ByteArray} {r : Option FieldType} (h1 : Cond.methodLink own idx y ∈ bw) (h2 : Cond.static y ∈ bw) (h4 : Cond.initialized own ∈ bw) (h5 : Cond.code y c n r ∈ bw) : GoodIn Ts (wsS own idx y (Cond.code y c n r :: bw)) := by
  intro w h
  unfold wsS at h
  rcases List.mem_append.mp h with h | h
  · have hw : w ∈ bw := by
      rcases List.mem_cons.mp h with rfl | h
      · exact h1
      rcases List.mem_cons.mp h with rfl | h
      · exact h2
      rcases List.mem_cons.mp h with rfl | h
      · exact h4
      cases h
    exact ⟨hT w hw, bw_good hw⟩
  · exact gC hT h5 w h
theorem bc {w0 : Cond} : ∀ w ∈ bw, w ∈ w0 :: bw := fun _ h => List.mem_cons_of_mem _ h
theorem ini_L : Cond.initialized RL ∈ bw := (bw_t (t_1 0 rfl) rfl)
theorem ini_X0 : Cond.initialized RX0 ∈ bw := (bw_t (t_1 1 rfl) rfl)
theorem ini_X1 : Cond.initialized RX1 ∈ bw := (bw_t (t_1 2 rfl) rfl)
theorem ini_J0 : Cond.initialized RJ0 ∈ bw := (bw_t (t_1 3 rfl) rfl)
theorem ini_J1 : Cond.initialized RJ1 ∈ bw := (bw_t (t_1 4 rfl) rfl)
theorem ini_J3 : Cond.initialized RJ3 ∈ bw := (bw_t (t_1 5 rfl) rfl)
theorem ini_J2 : Cond.initialized RJ2 ∈ bw := (bw_t (t_1 6 rfl) rfl)
theorem ck_X0 : Cond.classLink RL 7 RX0 ∈ bw := (bw_t (t_1 7 rfl) rfl)
theorem it_X0 : Cond.instantiable RX0 16 ∈ bw := (bw_t (t_1 8 rfl) rfl)
theorem ml_L_9 : Cond.methodLink RL 9 yX0_init ∈ bw := (bw_t (t_1 9 rfl) rfl)
theorem im_X0_init : Cond.instanceMethod yX0_init ∈ bw := (bw_t (t_1 10 rfl) rfl)
theorem co_X0_init : Cond.code yX0_init cX0_init 1 none ∈ bw := (bw_t (t_1 11 rfl) rfl)
theorem ml_X0_1 : Cond.methodLink RX0 1 objectInit ∈ bw := (bw_t (t_1 12 rfl) rfl)
theorem im_O_init : Cond.instanceMethod objectInit ∈ bw := (bw_t (t_1 13 rfl) rfl)
theorem co_O_init : Cond.code objectInit ⟨#[0xb1]⟩ 1 none ∈ bw := (bw_t (t_1 14 rfl) rfl)
theorem ml_X0_16 : Cond.methodLink RX0 16 yX0_restart ∈ bw := (bw_t (t_1 15 rfl) rfl)
theorem im_X0_restart : Cond.instanceMethod yX0_restart ∈ bw := (bw_t (t_1 17 rfl) rfl)
theorem co_X0_restart : Cond.code yX0_restart cX0_restart 1 none ∈ bw := (bw_t (t_1 18 rfl) rfl)
theorem fl_X0_9 : Cond.fieldLink RX0 9 "LineMill" "text" "[J" ∈ bw := (bw_t (t_1 19 rfl) rfl)
theorem fl_X0_13 : Cond.fieldLink RX0 13 "LineMill" "tokens" "[J" ∈ bw := (bw_t (t_1 20 rfl) rfl)
theorem fl_X0_19 : Cond.fieldLink RX0 19 "LineMill" "length" "I" ∈ bw := (bw_t (t_1 21 rfl) rfl)
theorem fl_X0_39 : Cond.fieldLink RX0 39 "LineMill" "at" "I" ∈ bw := (bw_t (t_1 22 rfl) rfl)
theorem fl_X0_68 : Cond.fieldLink RX0 68 "LineMill" "line" "I" ∈ bw := (bw_t (t_1 23 rfl) rfl)
theorem fl_X0_62 : Cond.fieldLink RX0 62 "LineMill" "tokenLines" "I" ∈ bw := (bw_t (t_1 24 rfl) rfl)
theorem fl_X0_85 : Cond.fieldLink RX0 85 "LineMill" "openQuotes" "I" ∈ bw := (bw_t (t_1 25 rfl) rfl)
theorem fl_X0_65 : Cond.fieldLink RX0 65 "LineMill" "faultLine" "I" ∈ bw := (bw_t (t_1 26 rfl) rfl)
theorem fl_X0_35 : Cond.fieldLink RX0 35 "LineMill" "stopped" "Z" ∈ bw := (bw_t (t_1 27 rfl) rfl)
theorem fl_X0_32 : Cond.fieldLink RX0 32 "LineMill" "count" "I" ∈ bw := (bw_t (t_1 28 rfl) rfl)
theorem fl_X0_90 : Cond.fieldLink RX0 90 "LineMill" "found" "I" ∈ bw := (bw_t (t_1 29 rfl) rfl)
theorem fl_X0_93 : Cond.fieldLink RX0 93 "LineMill" "before" "Z" ∈ bw := (bw_t (t_1 30 rfl) rfl)
theorem fl_X0_102 : Cond.fieldLink RX0 102 "LineMill" "firstLine" "I" ∈ bw := (bw_t (t_1 31 rfl) rfl)
theorem fl_X0_109 : Cond.fieldLink RX0 109 "LineMill" "excessLine" "I" ∈ bw := (bw_t (t_1 32 rfl) rfl)
theorem fl_X0_96 : Cond.fieldLink RX0 96 "LineMill" "openTextsUpTo" "I" ∈ bw := (bw_t (t_1 33 rfl) rfl)
theorem fl_X0_99 : Cond.fieldLink RX0 99 "LineMill" "openCharactersUpTo" "I" ∈ bw := (bw_t (t_1 34 rfl) rfl)
theorem ac_long : Cond.arrayClass .long ∈ bw := (bw_t (t_1 68 rfl) rfl)
theorem ml_L_15 : Cond.methodLink RL 15 yX0_feed ∈ bw := (bw_t (t_1 69 rfl) rfl)
theorem im_X0_feed : Cond.instanceMethod yX0_feed ∈ bw := (bw_t (t_1 70 rfl) rfl)
theorem se_X0_feed : Cond.selects RX0 yX0_feed yX0_feed ∈ bw := (bw_t (t_1 71 rfl) rfl)
theorem co_X0_feed : Cond.code yX0_feed cX0_feed 5 (some .int) ∈ bw := (bw_t (t_1 72 rfl) rfl)
theorem cn_X0_23 : Cond.constant RX0 23 (nI 32768) ∈ bw := (bw_t (t_1 73 rfl) rfl)
theorem ml_X0_24 : Cond.methodLink RX0 24 yX0_append ∈ bw := (bw_t (t_1 74 rfl) rfl)
theorem im_X0_append : Cond.instanceMethod yX0_append ∈ bw := (bw_t (t_1 76 rfl) rfl)
theorem co_X0_append : Cond.code yX0_append cX0_append 4 none ∈ bw := (bw_t (t_1 77 rfl) rfl)
theorem cn_X0_83 : Cond.constantLong RX0 83 (lN 255) ∈ bw := (bw_t (t_1 78 rfl) rfl)
theorem cn_X0_88 : Cond.constantLong RX0 88 (-1) ∈ bw := (bw_t (t_1 79 rfl) rfl)
theorem ml_L_20 : Cond.methodLink RL 20 yX0_again ∈ bw := (bw_t (t_1 80 rfl) rfl)
theorem im_X0_again : Cond.instanceMethod yX0_again ∈ bw := (bw_t (t_1 81 rfl) rfl)
theorem se_X0_again : Cond.selects RX0 yX0_again yX0_again ∈ bw := (bw_t (t_1 82 rfl) rfl)
theorem co_X0_again : Cond.code yX0_again cX0_again 4 (some .int) ∈ bw := (bw_t (t_1 83 rfl) rfl)
theorem ml_X0_28 : Cond.methodLink RX0 28 yX0_byteAt ∈ bw := (bw_t (t_1 84 rfl) rfl)
theorem im_X0_byteAt : Cond.instanceMethod yX0_byteAt ∈ bw := (bw_t (t_1 86 rfl) rfl)
theorem co_X0_byteAt : Cond.code yX0_byteAt cX0_byteAt 3 (some .int) ∈ bw := (bw_t (t_1 87 rfl) rfl)
theorem ml_L_25 : Cond.methodLink RL 25 yX0_clear ∈ bw := (bw_t (t_1 88 rfl) rfl)
theorem im_X0_clear : Cond.instanceMethod yX0_clear ∈ bw := (bw_t (t_1 89 rfl) rfl)
theorem se_X0_clear : Cond.selects RX0 yX0_clear yX0_clear ∈ bw := (bw_t (t_1 90 rfl) rfl)
theorem co_X0_clear : Cond.code yX0_clear cX0_clear 2 (some .int) ∈ bw := (bw_t (t_1 91 rfl) rfl)
theorem ml_L_30 : Cond.methodLink RL 30 yX0_begin ∈ bw := (bw_t (t_1 92 rfl) rfl)
theorem im_X0_begin : Cond.instanceMethod yX0_begin ∈ bw := (bw_t (t_1 93 rfl) rfl)
theorem se_X0_begin : Cond.selects RX0 yX0_begin yX0_begin ∈ bw := (bw_t (t_1 94 rfl) rfl)
theorem co_X0_begin : Cond.code yX0_begin cX0_begin 1 none ∈ bw := (bw_t (t_1 95 rfl) rfl)
theorem ml_L_34 : Cond.methodLink RL 34 yX0_next ∈ bw := (bw_t (t_1 96 rfl) rfl)
theorem im_X0_next : Cond.instanceMethod yX0_next ∈ bw := (bw_t (t_1 97 rfl) rfl)
theorem se_X0_next : Cond.selects RX0 yX0_next yX0_next ∈ bw := (bw_t (t_1 98 rfl) rfl)
theorem co_X0_next : Cond.code yX0_next cX0_next 4 (some .int) ∈ bw := (bw_t (t_1 99 rfl) rfl)
theorem ml_X0_42 : Cond.methodLink RX0 42 yX0_leftFrom ∈ bw := (bw_t (t_1 100 rfl) rfl)
theorem im_X0_leftFrom : Cond.instanceMethod yX0_leftFrom ∈ bw := (bw_t (t_1 102 rfl) rfl)
theorem co_X0_leftFrom : Cond.code yX0_leftFrom cX0_leftFrom 3 (some .int) ∈ bw := (bw_t (t_1 103 rfl) rfl)
theorem ml_X0_45 : Cond.methodLink RX0 45 yX0_pass ∈ bw := (bw_t (t_1 104 rfl) rfl)
theorem im_X0_pass : Cond.instanceMethod yX0_pass ∈ bw := (bw_t (t_1 106 rfl) rfl)
theorem co_X0_pass : Cond.code yX0_pass cX0_pass 4 (some .int) ∈ bw := (bw_t (t_1 107 rfl) rfl)
theorem ml_X0_48 : Cond.methodLink RX0 48 yX0_openLine ∈ bw := (bw_t (t_1 108 rfl) rfl)
theorem im_X0_openLine : Cond.instanceMethod yX0_openLine ∈ bw := (bw_t (t_1 110 rfl) rfl)
theorem co_X0_openLine : Cond.code yX0_openLine cX0_openLine 1 none ∈ bw := (bw_t (t_1 111 rfl) rfl)
theorem ml_X0_51 : Cond.methodLink RX0 51 yX0_cutPiece ∈ bw := (bw_t (t_1 112 rfl) rfl)
theorem im_X0_cutPiece : Cond.instanceMethod yX0_cutPiece ∈ bw := (bw_t (t_1 114 rfl) rfl)
theorem co_X0_cutPiece : Cond.code yX0_cutPiece cX0_cutPiece 4 (some .int) ∈ bw := (bw_t (t_1 115 rfl) rfl)
theorem ml_X0_112 : Cond.methodLink RX0 112 yX0_passBlank ∈ bw := (bw_t (t_1 116 rfl) rfl)
theorem im_X0_passBlank : Cond.instanceMethod yX0_passBlank ∈ bw := (bw_t (t_1 118 rfl) rfl)
theorem co_X0_passBlank : Cond.code yX0_passBlank cX0_passBlank 2 (some .int) ∈ bw := (bw_t (t_1 119 rfl) rfl)
theorem ml_X0_115 : Cond.methodLink RX0 115 yX0_isBlank ∈ bw := (bw_t (t_1 120 rfl) rfl)
theorem sm_X0_isBlank : Cond.static yX0_isBlank ∈ bw := (bw_t (t_1 121 rfl) rfl)
theorem co_X0_isBlank : Cond.code yX0_isBlank cX0_isBlank 1 (some .boolean) ∈ bw := (bw_t (t_1 122 rfl) rfl)
theorem ml_X0_118 : Cond.methodLink RX0 118 yX0_passComment ∈ bw := (bw_t (t_1 123 rfl) rfl)
theorem im_X0_passComment : Cond.instanceMethod yX0_passComment ∈ bw := (bw_t (t_1 125 rfl) rfl)
theorem co_X0_passComment : Cond.code yX0_passComment cX0_passComment 3 (some .int) ∈ bw := (bw_t (t_1 126 rfl) rfl)
theorem ml_X0_152 : Cond.methodLink RX0 152 yX0_commentEnd ∈ bw := (bw_t (t_1 127 rfl) rfl)
theorem im_X0_commentEnd : Cond.instanceMethod yX0_commentEnd ∈ bw := (bw_t (t_1 129 rfl) rfl)
theorem co_X0_commentEnd : Cond.code yX0_commentEnd cX0_commentEnd 5 (some .int) ∈ bw := (bw_t (t_1 130 rfl) rfl)
theorem ml_X0_105 : Cond.methodLink RX0 105 yX0_stopAt ∈ bw := (bw_t (t_1 131 rfl) rfl)
theorem im_X0_stopAt : Cond.instanceMethod yX0_stopAt ∈ bw := (bw_t (t_1 133 rfl) rfl)
theorem co_X0_stopAt : Cond.code yX0_stopAt cX0_stopAt 3 (some .int) ∈ bw := (bw_t (t_1 134 rfl) rfl)
theorem ml_X0_121 : Cond.methodLink RX0 121 yX0_lineEnd ∈ bw := (bw_t (t_1 135 rfl) rfl)
theorem im_X0_lineEnd : Cond.instanceMethod yX0_lineEnd ∈ bw := (bw_t (t_1 137 rfl) rfl)
theorem co_X0_lineEnd : Cond.code yX0_lineEnd cX0_lineEnd 3 (some .int) ∈ bw := (bw_t (t_1 138 rfl) rfl)
theorem ml_X0_124 : Cond.methodLink RX0 124 yX0_isQuote ∈ bw := (bw_t (t_1 139 rfl) rfl)
theorem sm_X0_isQuote : Cond.static yX0_isQuote ∈ bw := (bw_t (t_1 140 rfl) rfl)
theorem co_X0_isQuote : Cond.code yX0_isQuote cX0_isQuote 1 (some .boolean) ∈ bw := (bw_t (t_1 141 rfl) rfl)
theorem ml_X0_127 : Cond.methodLink RX0 127 yX0_cutQuote ∈ bw := (bw_t (t_1 142 rfl) rfl)
theorem im_X0_cutQuote : Cond.instanceMethod yX0_cutQuote ∈ bw := (bw_t (t_1 144 rfl) rfl)
theorem co_X0_cutQuote : Cond.code yX0_cutQuote cX0_cutQuote 3 (some .int) ∈ bw := (bw_t (t_1 145 rfl) rfl)
theorem ml_X0_155 : Cond.methodLink RX0 155 yX0_quoteEnd ∈ bw := (bw_t (t_1 146 rfl) rfl)
theorem im_X0_quoteEnd : Cond.instanceMethod yX0_quoteEnd ∈ bw := (bw_t (t_1 148 rfl) rfl)
theorem co_X0_quoteEnd : Cond.code yX0_quoteEnd cX0_quoteEnd 6 (some .int) ∈ bw := (bw_t (t_1 149 rfl) rfl)
theorem ml_X0_158 : Cond.methodLink RX0 158 yX0_kindOfQuote ∈ bw := (bw_t (t_1 150 rfl) rfl)
theorem sm_X0_kindOfQuote : Cond.static yX0_kindOfQuote ∈ bw := (bw_t (t_1 151 rfl) rfl)
theorem co_X0_kindOfQuote : Cond.code yX0_kindOfQuote cX0_kindOfQuote 1 (some .int) ∈ bw := (bw_t (t_1 152 rfl) rfl)
theorem ml_X0_139 : Cond.methodLink RX0 139 yX0_addToken ∈ bw := (bw_t (t_1 153 rfl) rfl)
theorem im_X0_addToken : Cond.instanceMethod yX0_addToken ∈ bw := (bw_t (t_1 155 rfl) rfl)
theorem co_X0_addToken : Cond.code yX0_addToken cX0_addToken 6 (some .int) ∈ bw := (bw_t (t_1 156 rfl) rfl)
theorem ml_X0_130 : Cond.methodLink RX0 130 yX0_cutWide ∈ bw := (bw_t (t_1 157 rfl) rfl)
theorem im_X0_cutWide : Cond.instanceMethod yX0_cutWide ∈ bw := (bw_t (t_1 159 rfl) rfl)
theorem co_X0_cutWide : Cond.code yX0_cutWide cX0_cutWide 4 (some .int) ∈ bw := (bw_t (t_1 160 rfl) rfl)
theorem ml_X0_133 : Cond.methodLink RX0 133 yX0_isLetter ∈ bw := (bw_t (t_1 161 rfl) rfl)
theorem sm_X0_isLetter : Cond.static yX0_isLetter ∈ bw := (bw_t (t_1 162 rfl) rfl)
theorem co_X0_isLetter : Cond.code yX0_isLetter cX0_isLetter 1 (some .boolean) ∈ bw := (bw_t (t_1 163 rfl) rfl)
theorem ml_X0_136 : Cond.methodLink RX0 136 yX0_nameEnd ∈ bw := (bw_t (t_1 164 rfl) rfl)
theorem im_X0_nameEnd : Cond.instanceMethod yX0_nameEnd ∈ bw := (bw_t (t_1 166 rfl) rfl)
theorem co_X0_nameEnd : Cond.code yX0_nameEnd cX0_nameEnd 3 (some .int) ∈ bw := (bw_t (t_1 167 rfl) rfl)
theorem ml_X0_142 : Cond.methodLink RX0 142 yX0_isDigit ∈ bw := (bw_t (t_1 168 rfl) rfl)
theorem sm_X0_isDigit : Cond.static yX0_isDigit ∈ bw := (bw_t (t_1 169 rfl) rfl)
theorem co_X0_isDigit : Cond.code yX0_isDigit cX0_isDigit 1 (some .boolean) ∈ bw := (bw_t (t_1 170 rfl) rfl)
theorem ml_X0_145 : Cond.methodLink RX0 145 yX0_numberEnd ∈ bw := (bw_t (t_1 171 rfl) rfl)
theorem im_X0_numberEnd : Cond.instanceMethod yX0_numberEnd ∈ bw := (bw_t (t_1 173 rfl) rfl)
theorem co_X0_numberEnd : Cond.code yX0_numberEnd cX0_numberEnd 5 (some .int) ∈ bw := (bw_t (t_1 174 rfl) rfl)
theorem ml_X0_171 : Cond.methodLink RX0 171 yX0_goesOnNumber ∈ bw := (bw_t (t_1 175 rfl) rfl)
theorem sm_X0_goesOnNumber : Cond.static yX0_goesOnNumber ∈ bw := (bw_t (t_1 176 rfl) rfl)
theorem co_X0_goesOnNumber : Cond.code yX0_goesOnNumber cX0_goesOnNumber 2 (some .boolean) ∈ bw := (bw_t (t_1 177 rfl) rfl)
theorem ml_X0_148 : Cond.methodLink RX0 148 yX0_cutSign ∈ bw := (bw_t (t_1 178 rfl) rfl)
theorem im_X0_cutSign : Cond.instanceMethod yX0_cutSign ∈ bw := (bw_t (t_1 180 rfl) rfl)
theorem co_X0_cutSign : Cond.code yX0_cutSign cX0_cutSign 7 (some .int) ∈ bw := (bw_t (t_1 181 rfl) rfl)
theorem ml_X0_163 : Cond.methodLink RX0 163 yX0_hasSign ∈ bw := (bw_t (t_1 183 rfl) rfl)
theorem sm_X0_hasSign : Cond.static yX0_hasSign ∈ bw := (bw_t (t_1 184 rfl) rfl)
theorem co_X0_hasSign : Cond.code yX0_hasSign cX0_hasSign 6 (some .boolean) ∈ bw := (bw_t (t_1 185 rfl) rfl)
theorem ml_X0_175 : Cond.methodLink RX0 175 yJ0_length ∈ bw := (bw_t (t_1 186 rfl) rfl)
theorem im_J0_length : Cond.instanceMethod yJ0_length ∈ bw := (bw_t (t_1 187 rfl) rfl)
theorem se_J0_length : Cond.selects RJ0 yJ0_length yJ0_length ∈ bw := (bw_t (t_1 188 rfl) rfl)
theorem co_J0_length : Cond.code yJ0_length cJ0_length 1 (some .int) ∈ bw := (bw_t (t_1 189 rfl) rfl)
theorem ml_J0_335 : Cond.methodLink RJ0 335 yJ0_coder ∈ bw := (bw_t (t_1 190 rfl) rfl)
theorem im_J0_coder : Cond.instanceMethod yJ0_coder ∈ bw := (bw_t (t_1 191 rfl) rfl)
theorem se_J0_coder : Cond.selects RJ0 yJ0_coder yJ0_coder ∈ bw := (bw_t (t_1 192 rfl) rfl)
theorem co_J0_coder : Cond.code yJ0_coder cJ0_coder 1 (some .byte) ∈ bw := (bw_t (t_1 193 rfl) rfl)
theorem fl_J0_38 : Cond.fieldLink RJ0 38 "java/lang/String" "COMPACT_STRINGS" "Z" ∈ bw := (bw_t (t_1 194 rfl) rfl)
theorem ml_X0_179 : Cond.methodLink RX0 179 yJ0_charAt ∈ bw := (bw_t (t_1 196 rfl) rfl)
theorem im_J0_charAt : Cond.instanceMethod yJ0_charAt ∈ bw := (bw_t (t_1 197 rfl) rfl)
theorem se_J0_charAt : Cond.selects RJ0 yJ0_charAt yJ0_charAt ∈ bw := (bw_t (t_1 198 rfl) rfl)
theorem co_J0_charAt : Cond.code yJ0_charAt cJ0_charAt 2 (some .char) ∈ bw := (bw_t (t_1 199 rfl) rfl)
theorem ml_J0_492 : Cond.methodLink RJ0 492 yJ0_isLatin1 ∈ bw := (bw_t (t_1 200 rfl) rfl)
theorem im_J0_isLatin1 : Cond.instanceMethod yJ0_isLatin1 ∈ bw := (bw_t (t_1 201 rfl) rfl)
theorem se_J0_isLatin1 : Cond.selects RJ0 yJ0_isLatin1 yJ0_isLatin1 ∈ bw := (bw_t (t_1 202 rfl) rfl)
theorem co_J0_isLatin1 : Cond.code yJ0_isLatin1 cJ0_isLatin1 1 (some .boolean) ∈ bw := (bw_t (t_1 203 rfl) rfl)
theorem ml_J0_495 : Cond.methodLink RJ0 495 yJ1_charAt ∈ bw := (bw_t (t_1 204 rfl) rfl)
theorem sm_J1_charAt : Cond.static yJ1_charAt ∈ bw := (bw_t (t_1 205 rfl) rfl)
theorem co_J1_charAt : Cond.code yJ1_charAt cJ1_charAt 2 (some .char) ∈ bw := (bw_t (t_1 206 rfl) rfl)
theorem ml_J1_9 : Cond.methodLink RJ1 9 yJ0_checkIndex ∈ bw := (bw_t (t_1 207 rfl) rfl)
theorem sm_J0_checkIndex : Cond.static yJ0_checkIndex ∈ bw := (bw_t (t_1 208 rfl) rfl)
theorem co_J0_checkIndex : Cond.code yJ0_checkIndex cJ0_checkIndex 2 none ∈ bw := (bw_t (t_1 209 rfl) rfl)
theorem fl_J0_1053 : Cond.fieldLink RJ0 1053 "jdk/internal/util/Preconditions" "SIOOBE_FORMATTER" "Ljava/util/function/BiFunction;" ∈ bw := (bw_t (t_1 210 rfl) rfl)
theorem ml_J0_1059 : Cond.methodLink RJ0 1059 yJ3_checkIndex ∈ bw := (bw_t (t_1 212 rfl) rfl)
theorem sm_J3_checkIndex : Cond.static yJ3_checkIndex ∈ bw := (bw_t (t_1 213 rfl) rfl)
theorem co_J3_checkIndex : Cond.code yJ3_checkIndex cJ3_checkIndex 3 (some .int) ∈ bw := (bw_t (t_1 214 rfl) rfl)
theorem ml_J0_498 : Cond.methodLink RJ0 498 yJ2_charAt ∈ bw := (bw_t (t_1 215 rfl) rfl)
theorem sm_J2_charAt : Cond.static yJ2_charAt ∈ bw := (bw_t (t_1 216 rfl) rfl)
theorem co_J2_charAt : Cond.code yJ2_charAt cJ2_charAt 2 (some .char) ∈ bw := (bw_t (t_1 217 rfl) rfl)
theorem ml_J2_67 : Cond.methodLink RJ2 67 yJ2_checkIndex ∈ bw := (bw_t (t_1 218 rfl) rfl)
theorem sm_J2_checkIndex : Cond.static yJ2_checkIndex ∈ bw := (bw_t (t_1 219 rfl) rfl)
theorem co_J2_checkIndex : Cond.code yJ2_checkIndex cJ2_checkIndex 2 none ∈ bw := (bw_t (t_1 220 rfl) rfl)
theorem ml_J2_48 : Cond.methodLink RJ2 48 yJ2_length ∈ bw := (bw_t (t_1 221 rfl) rfl)
theorem sm_J2_length : Cond.static yJ2_length ∈ bw := (bw_t (t_1 222 rfl) rfl)
theorem co_J2_length : Cond.code yJ2_length cJ2_length 1 (some .int) ∈ bw := (bw_t (t_1 223 rfl) rfl)
theorem ml_J2_414 : Cond.methodLink RJ2 414 yJ0_checkIndex ∈ bw := (bw_t (t_1 224 rfl) rfl)
theorem ml_J2_71 : Cond.methodLink RJ2 71 yJ2_getChar ∈ bw := (bw_t (t_1 225 rfl) rfl)
theorem sm_J2_getChar : Cond.static yJ2_getChar ∈ bw := (bw_t (t_1 226 rfl) rfl)
theorem co_J2_getChar : Cond.code yJ2_getChar cJ2_getChar 2 (some .char) ∈ bw := (bw_t (t_1 227 rfl) rfl)
theorem fl_J2_44 : Cond.fieldLink RJ2 44 "java/lang/StringUTF16" "$assertionsDisabled" "Z" ∈ bw := (bw_t (t_1 228 rfl) rfl)
theorem fl_J2_59 : Cond.fieldLink RJ2 59 "java/lang/StringUTF16" "HI_BYTE_SHIFT" "I" ∈ bw := (bw_t (t_1 230 rfl) rfl)
theorem fl_J2_63 : Cond.fieldLink RJ2 63 "java/lang/StringUTF16" "LO_BYTE_SHIFT" "I" ∈ bw := (bw_t (t_1 232 rfl) rfl)
theorem ml_X0_55 : Cond.methodLink RX0 55 yX0_closeLine ∈ bw := (bw_t (t_1 236 rfl) rfl)
theorem im_X0_closeLine : Cond.instanceMethod yX0_closeLine ∈ bw := (bw_t (t_1 238 rfl) rfl)
theorem co_X0_closeLine : Cond.code yX0_closeLine cX0_closeLine 1 (some .int) ∈ bw := (bw_t (t_1 239 rfl) rfl)
theorem ac_byte : Cond.arrayClass .byte ∈ bw := (bw_t (t_2 0 rfl) rfl)
theorem ml_L_38 : Cond.methodLink RL 38 yX0_told ∈ bw := (bw_t (t_2 1 rfl) rfl)
theorem im_X0_told : Cond.instanceMethod yX0_told ∈ bw := (bw_t (t_2 2 rfl) rfl)
theorem se_X0_told : Cond.selects RX0 yX0_told yX0_told ∈ bw := (bw_t (t_2 3 rfl) rfl)
theorem co_X0_told : Cond.code yX0_told cX0_told 2 (some .int) ∈ bw := (bw_t (t_2 4 rfl) rfl)
theorem ml_X0_58 : Cond.methodLink RX0 58 yX0_isDirective ∈ bw := (bw_t (t_2 5 rfl) rfl)
theorem im_X0_isDirective : Cond.instanceMethod yX0_isDirective ∈ bw := (bw_t (t_2 7 rfl) rfl)
theorem co_X0_isDirective : Cond.code yX0_isDirective cX0_isDirective 1 (some .boolean) ∈ bw := (bw_t (t_2 8 rfl) rfl)
theorem ml_X0_71 : Cond.methodLink RX0 71 yX0_isAtHand ∈ bw := (bw_t (t_2 9 rfl) rfl)
theorem im_X0_isAtHand : Cond.instanceMethod yX0_isAtHand ∈ bw := (bw_t (t_2 11 rfl) rfl)
theorem co_X0_isAtHand : Cond.code yX0_isAtHand cX0_isAtHand 2 (some .boolean) ∈ bw := (bw_t (t_2 12 rfl) rfl)
theorem ml_X0_76 : Cond.methodLink RX0 76 yX0_bytesOf ∈ bw := (bw_t (t_2 13 rfl) rfl)
theorem sm_X0_bytesOf : Cond.static yX0_bytesOf ∈ bw := (bw_t (t_2 14 rfl) rfl)
theorem co_X0_bytesOf : Cond.code yX0_bytesOf cX0_bytesOf 2 (some .int) ∈ bw := (bw_t (t_2 15 rfl) rfl)
theorem cn_X0_75 : Cond.constant RX0 75 (nI 65535) ∈ bw := (bw_t (t_2 16 rfl) rfl)
theorem ml_X0_80 : Cond.methodLink RX0 80 yX0_startOf ∈ bw := (bw_t (t_2 17 rfl) rfl)
theorem sm_X0_startOf : Cond.static yX0_startOf ∈ bw := (bw_t (t_2 18 rfl) rfl)
theorem co_X0_startOf : Cond.code yX0_startOf cX0_startOf 2 (some .int) ∈ bw := (bw_t (t_2 19 rfl) rfl)
theorem ml_L_43 : Cond.methodLink RL 43 yX0_token ∈ bw := (bw_t (t_2 20 rfl) rfl)
theorem im_X0_token : Cond.instanceMethod yX0_token ∈ bw := (bw_t (t_2 21 rfl) rfl)
theorem se_X0_token : Cond.selects RX0 yX0_token yX0_token ∈ bw := (bw_t (t_2 22 rfl) rfl)
theorem co_X0_token : Cond.code yX0_token cX0_token 5 (some .int) ∈ bw := (bw_t (t_2 23 rfl) rfl)
theorem ml_L_47 : Cond.methodLink RL 47 yX0_spelling ∈ bw := (bw_t (t_2 24 rfl) rfl)
theorem im_X0_spelling : Cond.instanceMethod yX0_spelling ∈ bw := (bw_t (t_2 25 rfl) rfl)
theorem se_X0_spelling : Cond.selects RX0 yX0_spelling yX0_spelling ∈ bw := (bw_t (t_2 26 rfl) rfl)
theorem co_X0_spelling : Cond.code yX0_spelling cX0_spelling 8 (some .long) ∈ bw := (bw_t (t_2 27 rfl) rfl)
theorem ck_X1 : Cond.classLink RL 10 RX1 ∈ bw := (bw_t (t_2 28 rfl) rfl)
theorem it_X1 : Cond.instantiable RX1 20 ∈ bw := (bw_t (t_2 29 rfl) rfl)
theorem ml_L_12 : Cond.methodLink RL 12 yX1_init ∈ bw := (bw_t (t_2 30 rfl) rfl)
theorem im_X1_init : Cond.instanceMethod yX1_init ∈ bw := (bw_t (t_2 31 rfl) rfl)
theorem co_X1_init : Cond.code yX1_init cX1_init 1 none ∈ bw := (bw_t (t_2 32 rfl) rfl)
theorem ml_X1_1 : Cond.methodLink RX1 1 objectInit ∈ bw := (bw_t (t_2 33 rfl) rfl)
theorem cn_X1_9 : Cond.constant RX1 9 (nI 32768) ∈ bw := (bw_t (t_2 34 rfl) rfl)
theorem ml_X1_40 : Cond.methodLink RX1 40 yX1_begin ∈ bw := (bw_t (t_2 35 rfl) rfl)
theorem im_X1_begin : Cond.instanceMethod yX1_begin ∈ bw := (bw_t (t_2 36 rfl) rfl)
theorem se_X1_begin : Cond.selects RX1 yX1_begin yX1_begin ∈ bw := (bw_t (t_2 37 rfl) rfl)
theorem co_X1_begin : Cond.code yX1_begin cX1_begin 1 none ∈ bw := (bw_t (t_2 38 rfl) rfl)
theorem fl_X1_43 : Cond.fieldLink RX1 43 "LineMillModel" "textSize" "I" ∈ bw := (bw_t (t_2 39 rfl) rfl)
theorem fl_X1_10 : Cond.fieldLink RX1 10 "LineMillModel" "text" "[B" ∈ bw := (bw_t (t_2 40 rfl) rfl)
theorem fl_X1_47 : Cond.fieldLink RX1 47 "LineMillModel" "place" "I" ∈ bw := (bw_t (t_2 41 rfl) rfl)
theorem fl_X1_50 : Cond.fieldLink RX1 50 "LineMillModel" "placeLine" "I" ∈ bw := (bw_t (t_2 42 rfl) rfl)
theorem fl_X1_53 : Cond.fieldLink RX1 53 "LineMillModel" "stopped" "Z" ∈ bw := (bw_t (t_2 43 rfl) rfl)
theorem fl_X1_57 : Cond.fieldLink RX1 57 "LineMillModel" "faultLine" "I" ∈ bw := (bw_t (t_2 44 rfl) rfl)
theorem fl_X1_60 : Cond.fieldLink RX1 60 "LineMillModel" "lines" "I" ∈ bw := (bw_t (t_2 45 rfl) rfl)
theorem fl_X1_63 : Cond.fieldLink RX1 63 "LineMillModel" "noEnds" "I" ∈ bw := (bw_t (t_2 46 rfl) rfl)
theorem fl_X1_107 : Cond.fieldLink RX1 107 "LineMillModel" "left" "I" ∈ bw := (bw_t (t_2 47 rfl) rfl)
theorem fl_X1_14 : Cond.fieldLink RX1 14 "LineMillModel" "store" "[B" ∈ bw := (bw_t (t_2 48 rfl) rfl)
theorem fl_X1_17 : Cond.fieldLink RX1 17 "LineMillModel" "rawOf" "[I" ∈ bw := (bw_t (t_2 49 rfl) rfl)
theorem fl_X1_21 : Cond.fieldLink RX1 21 "LineMillModel" "lineOf" "[I" ∈ bw := (bw_t (t_2 50 rfl) rfl)
theorem fl_X1_110 : Cond.fieldLink RX1 110 "LineMillModel" "endLine" "I" ∈ bw := (bw_t (t_2 51 rfl) rfl)
theorem fl_X1_66 : Cond.fieldLink RX1 66 "LineMillModel" "count" "I" ∈ bw := (bw_t (t_2 52 rfl) rfl)
theorem fl_X1_24 : Cond.fieldLink RX1 24 "LineMillModel" "tokenAt" "[I" ∈ bw := (bw_t (t_2 53 rfl) rfl)
theorem fl_X1_27 : Cond.fieldLink RX1 27 "LineMillModel" "tokenSize" "[I" ∈ bw := (bw_t (t_2 54 rfl) rfl)
theorem fl_X1_30 : Cond.fieldLink RX1 30 "LineMillModel" "tokenLine" "[I" ∈ bw := (bw_t (t_2 55 rfl) rfl)
theorem fl_X1_33 : Cond.fieldLink RX1 33 "LineMillModel" "tokenBefore" "[Z" ∈ bw := (bw_t (t_2 56 rfl) rfl)
theorem fl_X1_113 : Cond.fieldLink RX1 113 "LineMillModel" "spelled" "I" ∈ bw := (bw_t (t_2 57 rfl) rfl)
theorem fl_X1_37 : Cond.fieldLink RX1 37 "LineMillModel" "spellings" "[B" ∈ bw := (bw_t (t_2 58 rfl) rfl)
theorem ac_int : Cond.arrayClass .int ∈ bw := (bw_t (t_2 100 rfl) rfl)
theorem ac_boolean : Cond.arrayClass .boolean ∈ bw := (bw_t (t_2 101 rfl) rfl)
theorem ml_L_19 : Cond.methodLink RL 19 yX1_feed ∈ bw := (bw_t (t_2 102 rfl) rfl)
theorem im_X1_feed : Cond.instanceMethod yX1_feed ∈ bw := (bw_t (t_2 103 rfl) rfl)
theorem se_X1_feed : Cond.selects RX1 yX1_feed yX1_feed ∈ bw := (bw_t (t_2 104 rfl) rfl)
theorem co_X1_feed : Cond.code yX1_feed cX1_feed 5 (some .int) ∈ bw := (bw_t (t_2 105 rfl) rfl)
theorem ml_L_24 : Cond.methodLink RL 24 yX1_again ∈ bw := (bw_t (t_2 106 rfl) rfl)
theorem im_X1_again : Cond.instanceMethod yX1_again ∈ bw := (bw_t (t_2 107 rfl) rfl)
theorem se_X1_again : Cond.selects RX1 yX1_again yX1_again ∈ bw := (bw_t (t_2 108 rfl) rfl)
theorem co_X1_again : Cond.code yX1_again cX1_again 4 (some .int) ∈ bw := (bw_t (t_2 109 rfl) rfl)
theorem ml_L_29 : Cond.methodLink RL 29 yX1_clear ∈ bw := (bw_t (t_2 110 rfl) rfl)
theorem im_X1_clear : Cond.instanceMethod yX1_clear ∈ bw := (bw_t (t_2 111 rfl) rfl)
theorem se_X1_clear : Cond.selects RX1 yX1_clear yX1_clear ∈ bw := (bw_t (t_2 112 rfl) rfl)
theorem co_X1_clear : Cond.code yX1_clear cX1_clear 2 (some .int) ∈ bw := (bw_t (t_2 113 rfl) rfl)
theorem ml_L_33 : Cond.methodLink RL 33 yX1_begin ∈ bw := (bw_t (t_2 114 rfl) rfl)
theorem ml_L_37 : Cond.methodLink RL 37 yX1_next ∈ bw := (bw_t (t_2 115 rfl) rfl)
theorem im_X1_next : Cond.instanceMethod yX1_next ∈ bw := (bw_t (t_2 116 rfl) rfl)
theorem se_X1_next : Cond.selects RX1 yX1_next yX1_next ∈ bw := (bw_t (t_2 117 rfl) rfl)
theorem co_X1_next : Cond.code yX1_next cX1_next 10 (some .int) ∈ bw := (bw_t (t_2 118 rfl) rfl)
theorem ml_X1_116 : Cond.methodLink RX1 116 yX1_layDown ∈ bw := (bw_t (t_2 119 rfl) rfl)
theorem im_X1_layDown : Cond.instanceMethod yX1_layDown ∈ bw := (bw_t (t_2 121 rfl) rfl)
theorem co_X1_layDown : Cond.code yX1_layDown cX1_layDown 3 none ∈ bw := (bw_t (t_2 122 rfl) rfl)
theorem ml_X1_79 : Cond.methodLink RX1 79 yX1_byteAt ∈ bw := (bw_t (t_2 123 rfl) rfl)
theorem sm_X1_byteAt : Cond.static yX1_byteAt ∈ bw := (bw_t (t_2 124 rfl) rfl)
theorem co_X1_byteAt : Cond.code yX1_byteAt cX1_byteAt 3 (some .int) ∈ bw := (bw_t (t_2 125 rfl) rfl)
theorem ml_X1_119 : Cond.methodLink RX1 119 yX1_isBlank ∈ bw := (bw_t (t_2 126 rfl) rfl)
theorem sm_X1_isBlank : Cond.static yX1_isBlank ∈ bw := (bw_t (t_2 127 rfl) rfl)
theorem co_X1_isBlank : Cond.code yX1_isBlank cX1_isBlank 1 (some .boolean) ∈ bw := (bw_t (t_2 128 rfl) rfl)
theorem ml_X1_122 : Cond.methodLink RX1 122 yX1_commentEnd ∈ bw := (bw_t (t_2 129 rfl) rfl)
theorem im_X1_commentEnd : Cond.instanceMethod yX1_commentEnd ∈ bw := (bw_t (t_2 131 rfl) rfl)
theorem co_X1_commentEnd : Cond.code yX1_commentEnd cX1_commentEnd 3 (some .int) ∈ bw := (bw_t (t_2 132 rfl) rfl)
theorem ml_X1_126 : Cond.methodLink RX1 126 yX1_stop ∈ bw := (bw_t (t_2 133 rfl) rfl)
theorem im_X1_stop : Cond.instanceMethod yX1_stop ∈ bw := (bw_t (t_2 135 rfl) rfl)
theorem co_X1_stop : Cond.code yX1_stop cX1_stop 3 (some .int) ∈ bw := (bw_t (t_2 136 rfl) rfl)
theorem ml_X1_129 : Cond.methodLink RX1 129 yX1_tokenSizeAt ∈ bw := (bw_t (t_2 137 rfl) rfl)
theorem im_X1_tokenSizeAt : Cond.instanceMethod yX1_tokenSizeAt ∈ bw := (bw_t (t_2 139 rfl) rfl)
theorem co_X1_tokenSizeAt : Cond.code yX1_tokenSizeAt cX1_tokenSizeAt 9 (some .int) ∈ bw := (bw_t (t_2 140 rfl) rfl)
theorem ml_X1_91 : Cond.methodLink RX1 91 yX1_quotedEnd ∈ bw := (bw_t (t_2 141 rfl) rfl)
theorem im_X1_quotedEnd : Cond.instanceMethod yX1_quotedEnd ∈ bw := (bw_t (t_2 143 rfl) rfl)
theorem co_X1_quotedEnd : Cond.code yX1_quotedEnd cX1_quotedEnd 5 (some .int) ∈ bw := (bw_t (t_2 144 rfl) rfl)
theorem ml_X1_95 : Cond.methodLink RX1 95 yX1_isLetter ∈ bw := (bw_t (t_2 145 rfl) rfl)
theorem sm_X1_isLetter : Cond.static yX1_isLetter ∈ bw := (bw_t (t_2 146 rfl) rfl)
theorem co_X1_isLetter : Cond.code yX1_isLetter cX1_isLetter 1 (some .boolean) ∈ bw := (bw_t (t_2 147 rfl) rfl)
theorem ml_X1_99 : Cond.methodLink RX1 99 yX1_isDigit ∈ bw := (bw_t (t_2 148 rfl) rfl)
theorem sm_X1_isDigit : Cond.static yX1_isDigit ∈ bw := (bw_t (t_2 149 rfl) rfl)
theorem co_X1_isDigit : Cond.code yX1_isDigit cX1_isDigit 1 (some .boolean) ∈ bw := (bw_t (t_2 150 rfl) rfl)
theorem ml_X1_85 : Cond.methodLink RX1 85 yX1_isOneOf ∈ bw := (bw_t (t_2 152 rfl) rfl)
theorem sm_X1_isOneOf : Cond.static yX1_isOneOf ∈ bw := (bw_t (t_2 153 rfl) rfl)
theorem co_X1_isOneOf : Cond.code yX1_isOneOf cX1_isOneOf 4 (some .boolean) ∈ bw := (bw_t (t_2 154 rfl) rfl)
theorem ml_X1_69 : Cond.methodLink RX1 69 yJ0_length ∈ bw := (bw_t (t_2 155 rfl) rfl)
theorem ml_X1_75 : Cond.methodLink RX1 75 yJ0_charAt ∈ bw := (bw_t (t_2 156 rfl) rfl)
theorem ml_X1_104 : Cond.methodLink RX1 104 yX1_signSize ∈ bw := (bw_t (t_2 157 rfl) rfl)
theorem im_X1_signSize : Cond.instanceMethod yX1_signSize ∈ bw := (bw_t (t_2 159 rfl) rfl)
theorem co_X1_signSize : Cond.code yX1_signSize cX1_signSize 8 (some .int) ∈ bw := (bw_t (t_2 160 rfl) rfl)
theorem ml_X1_132 : Cond.methodLink RX1 132 yX1_keep ∈ bw := (bw_t (t_2 163 rfl) rfl)
theorem im_X1_keep : Cond.instanceMethod yX1_keep ∈ bw := (bw_t (t_2 165 rfl) rfl)
theorem co_X1_keep : Cond.code yX1_keep cX1_keep 5 none ∈ bw := (bw_t (t_2 166 rfl) rfl)
theorem ml_L_42 : Cond.methodLink RL 42 yX1_told ∈ bw := (bw_t (t_2 167 rfl) rfl)
theorem im_X1_told : Cond.instanceMethod yX1_told ∈ bw := (bw_t (t_2 168 rfl) rfl)
theorem se_X1_told : Cond.selects RX1 yX1_told yX1_told ∈ bw := (bw_t (t_2 169 rfl) rfl)
theorem co_X1_told : Cond.code yX1_told cX1_told 2 (some .int) ∈ bw := (bw_t (t_2 170 rfl) rfl)
theorem ml_L_46 : Cond.methodLink RL 46 yX1_token ∈ bw := (bw_t (t_2 171 rfl) rfl)
theorem im_X1_token : Cond.instanceMethod yX1_token ∈ bw := (bw_t (t_2 172 rfl) rfl)
theorem se_X1_token : Cond.selects RX1 yX1_token yX1_token ∈ bw := (bw_t (t_2 173 rfl) rfl)
theorem co_X1_token : Cond.code yX1_token cX1_token 3 (some .int) ∈ bw := (bw_t (t_2 174 rfl) rfl)
theorem ml_X1_141 : Cond.methodLink RX1 141 yX1_kindOf ∈ bw := (bw_t (t_2 175 rfl) rfl)
theorem im_X1_kindOf : Cond.instanceMethod yX1_kindOf ∈ bw := (bw_t (t_2 177 rfl) rfl)
theorem co_X1_kindOf : Cond.code yX1_kindOf cX1_kindOf 5 (some .int) ∈ bw := (bw_t (t_2 178 rfl) rfl)
theorem ml_X1_136 : Cond.methodLink RX1 136 yX1_byteOf ∈ bw := (bw_t (t_2 179 rfl) rfl)
theorem im_X1_byteOf : Cond.instanceMethod yX1_byteOf ∈ bw := (bw_t (t_2 181 rfl) rfl)
theorem co_X1_byteOf : Cond.code yX1_byteOf cX1_byteOf 3 (some .int) ∈ bw := (bw_t (t_2 182 rfl) rfl)
theorem ml_L_51 : Cond.methodLink RL 51 yX1_spelling ∈ bw := (bw_t (t_2 184 rfl) rfl)
theorem im_X1_spelling : Cond.instanceMethod yX1_spelling ∈ bw := (bw_t (t_2 185 rfl) rfl)
theorem se_X1_spelling : Cond.selects RX1 yX1_spelling yX1_spelling ∈ bw := (bw_t (t_2 186 rfl) rfl)
theorem co_X1_spelling : Cond.code yX1_spelling cX1_spelling 6 (some .long) ∈ bw := (bw_t (t_2 187 rfl) rfl)
theorem cn_L_13 : Cond.constantLong RL 13 (lN 4294967295) ∈ bw := (bw_t (t_2 188 rfl) rfl)
theorem fl_J0_9 : Cond.fieldLink RJ0 9 "java/lang/String" "value" "[B" ∈ bw := (bw_t (t_2 189 rfl) rfl)
theorem fl_J0_15 : Cond.fieldLink RJ0 15 "java/lang/String" "coder" "B" ∈ bw := (bw_t (t_2 190 rfl) rfl)
theorem se_X0_restart : Cond.selects RX0 yX0_restart yX0_restart ∈ bw := bw_p 0 rfl rfl
theorem se_X0_append : Cond.selects RX0 yX0_append yX0_append ∈ bw := bw_p 1 rfl rfl
theorem se_X0_byteAt : Cond.selects RX0 yX0_byteAt yX0_byteAt ∈ bw := bw_p 2 rfl rfl
theorem se_X0_leftFrom : Cond.selects RX0 yX0_leftFrom yX0_leftFrom ∈ bw := bw_p 3 rfl rfl
theorem se_X0_pass : Cond.selects RX0 yX0_pass yX0_pass ∈ bw := bw_p 4 rfl rfl
theorem se_X0_openLine : Cond.selects RX0 yX0_openLine yX0_openLine ∈ bw := bw_p 5 rfl rfl
theorem se_X0_cutPiece : Cond.selects RX0 yX0_cutPiece yX0_cutPiece ∈ bw := bw_p 6 rfl rfl
theorem se_X0_passBlank : Cond.selects RX0 yX0_passBlank yX0_passBlank ∈ bw := bw_p 7 rfl rfl
theorem se_X0_passComment : Cond.selects RX0 yX0_passComment yX0_passComment ∈ bw := bw_p 8 rfl rfl
theorem se_X0_commentEnd : Cond.selects RX0 yX0_commentEnd yX0_commentEnd ∈ bw := bw_p 9 rfl rfl
theorem se_X0_stopAt : Cond.selects RX0 yX0_stopAt yX0_stopAt ∈ bw := bw_p 10 rfl rfl
theorem se_X0_lineEnd : Cond.selects RX0 yX0_lineEnd yX0_lineEnd ∈ bw := bw_p 11 rfl rfl
theorem se_X0_cutQuote : Cond.selects RX0 yX0_cutQuote yX0_cutQuote ∈ bw := bw_p 12 rfl rfl
theorem se_X0_quoteEnd : Cond.selects RX0 yX0_quoteEnd yX0_quoteEnd ∈ bw := bw_p 13 rfl rfl
theorem se_X0_addToken : Cond.selects RX0 yX0_addToken yX0_addToken ∈ bw := bw_p 14 rfl rfl
theorem se_X0_cutWide : Cond.selects RX0 yX0_cutWide yX0_cutWide ∈ bw := bw_p 15 rfl rfl
theorem se_X0_nameEnd : Cond.selects RX0 yX0_nameEnd yX0_nameEnd ∈ bw := bw_p 16 rfl rfl
theorem se_X0_numberEnd : Cond.selects RX0 yX0_numberEnd yX0_numberEnd ∈ bw := bw_p 17 rfl rfl
theorem se_X0_cutSign : Cond.selects RX0 yX0_cutSign yX0_cutSign ∈ bw := bw_p 18 rfl rfl
theorem se_X0_closeLine : Cond.selects RX0 yX0_closeLine yX0_closeLine ∈ bw := bw_p 19 rfl rfl
theorem se_X0_isDirective : Cond.selects RX0 yX0_isDirective yX0_isDirective ∈ bw := bw_p 20 rfl rfl
theorem se_X0_isAtHand : Cond.selects RX0 yX0_isAtHand yX0_isAtHand ∈ bw := bw_p 21 rfl rfl
theorem se_X1_layDown : Cond.selects RX1 yX1_layDown yX1_layDown ∈ bw := bw_p 22 rfl rfl
theorem se_X1_commentEnd : Cond.selects RX1 yX1_commentEnd yX1_commentEnd ∈ bw := bw_p 23 rfl rfl
theorem se_X1_stop : Cond.selects RX1 yX1_stop yX1_stop ∈ bw := bw_p 24 rfl rfl
theorem se_X1_tokenSizeAt : Cond.selects RX1 yX1_tokenSizeAt yX1_tokenSizeAt ∈ bw := bw_p 25 rfl rfl
theorem se_X1_quotedEnd : Cond.selects RX1 yX1_quotedEnd yX1_quotedEnd ∈ bw := bw_p 26 rfl rfl
theorem se_X1_signSize : Cond.selects RX1 yX1_signSize yX1_signSize ∈ bw := bw_p 27 rfl rfl
theorem se_X1_keep : Cond.selects RX1 yX1_keep yX1_keep ∈ bw := bw_p 28 rfl rfl
theorem se_X1_kindOf : Cond.selects RX1 yX1_kindOf yX1_kindOf ∈ bw := bw_p 29 rfl rfl
theorem se_X1_byteOf : Cond.selects RX1 yX1_byteOf yX1_byteOf ∈ bw := bw_p 30 rfl rfl
theorem inX0 : ∀ w ∈ u_ws RX0 TX0 16, w ∈ bw := by
  intro w h
  refine bw_t ?_ ?_
  · revert w; decide +kernel
  · revert w; decide +kernel
theorem inX1 : ∀ w ∈ u_ws RX1 TX1 20, w ∈ bw := by
  intro w h
  refine bw_t ?_ ?_
  · revert w; decide +kernel
  · revert w; decide +kernel
theorem pd_X0_init : yX0_init.cls = RX0 ∧ yX0_init.cls ≠ "java/lang/invoke/MethodHandle" ∧ yX0_init.cls ≠ "java/lang/invoke/VarHandle" ∧ (parseMethodDescriptor yX0_init.desc).map (fun d => d.parameters.length) = some 0 := by decide +kernel
abbrev wX0_init : List Cond := .code yX0_init cX0_init 1 none :: bw
theorem pd_X0_restart : yX0_restart.cls = RX0 ∧ yX0_restart.cls ≠ "java/lang/invoke/MethodHandle" ∧ yX0_restart.cls ≠ "java/lang/invoke/VarHandle" ∧ (parseMethodDescriptor yX0_restart.desc).map (fun d => d.parameters.length) = some 0 := by decide +kernel
abbrev wX0_restart : List Cond := .code yX0_restart cX0_restart 1 none :: bw
theorem pd_X0_feed : yX0_feed.cls = RX0 ∧ yX0_feed.cls ≠ "java/lang/invoke/MethodHandle" ∧ yX0_feed.cls ≠ "java/lang/invoke/VarHandle" ∧ (parseMethodDescriptor yX0_feed.desc).map (fun d => d.parameters.length) = some 2 := by decide +kernel
abbrev wX0_feed : List Cond := .code yX0_feed cX0_feed 5 (some .int) :: bw
theorem pd_X0_append : yX0_append.cls = RX0 ∧ yX0_append.cls ≠ "java/lang/invoke/MethodHandle" ∧ yX0_append.cls ≠ "java/lang/invoke/VarHandle" ∧ (parseMethodDescriptor yX0_append.desc).map (fun d => d.parameters.length) = some 1 := by decide +kernel
abbrev wX0_append : List Cond := .code yX0_append cX0_append 4 none :: bw
theorem pd_X0_again : yX0_again.cls = RX0 ∧ yX0_again.cls ≠ "java/lang/invoke/MethodHandle" ∧ yX0_again.cls ≠ "java/lang/invoke/VarHandle" ∧ (parseMethodDescriptor yX0_again.desc).map (fun d => d.parameters.length) = some 2 := by decide +kernel
abbrev wX0_again : List Cond := .code yX0_again cX0_again 4 (some .int) :: bw
theorem pd_X0_byteAt : yX0_byteAt.cls = RX0 ∧ yX0_byteAt.cls ≠ "java/lang/invoke/MethodHandle" ∧ yX0_byteAt.cls ≠ "java/lang/invoke/VarHandle" ∧ (parseMethodDescriptor yX0_byteAt.desc).map (fun d => d.parameters.length) = some 1 := by decide +kernel
abbrev wX0_byteAt : List Cond := .code yX0_byteAt cX0_byteAt 3 (some .int) :: bw
theorem pd_X0_clear : yX0_clear.cls = RX0 ∧ yX0_clear.cls ≠ "java/lang/invoke/MethodHandle" ∧ yX0_clear.cls ≠ "java/lang/invoke/VarHandle" ∧ (parseMethodDescriptor yX0_clear.desc).map (fun d => d.parameters.length) = some 0 := by decide +kernel
abbrev wX0_clear : List Cond := .code yX0_clear cX0_clear 2 (some .int) :: bw
theorem pd_X0_begin : yX0_begin.cls = RX0 ∧ yX0_begin.cls ≠ "java/lang/invoke/MethodHandle" ∧ yX0_begin.cls ≠ "java/lang/invoke/VarHandle" ∧ (parseMethodDescriptor yX0_begin.desc).map (fun d => d.parameters.length) = some 0 := by decide +kernel
abbrev wX0_begin : List Cond := .code yX0_begin cX0_begin 1 none :: bw
theorem pd_X0_next : yX0_next.cls = RX0 ∧ yX0_next.cls ≠ "java/lang/invoke/MethodHandle" ∧ yX0_next.cls ≠ "java/lang/invoke/VarHandle" ∧ (parseMethodDescriptor yX0_next.desc).map (fun d => d.parameters.length) = some 0 := by decide +kernel
abbrev wX0_next : List Cond := .code yX0_next cX0_next 4 (some .int) :: bw
theorem pd_X0_leftFrom : yX0_leftFrom.cls = RX0 ∧ yX0_leftFrom.cls ≠ "java/lang/invoke/MethodHandle" ∧ yX0_leftFrom.cls ≠ "java/lang/invoke/VarHandle" ∧ (parseMethodDescriptor yX0_leftFrom.desc).map (fun d => d.parameters.length) = some 1 := by decide +kernel
abbrev wX0_leftFrom : List Cond := .code yX0_leftFrom cX0_leftFrom 3 (some .int) :: bw
theorem pd_X0_pass : yX0_pass.cls = RX0 ∧ yX0_pass.cls ≠ "java/lang/invoke/MethodHandle" ∧ yX0_pass.cls ≠ "java/lang/invoke/VarHandle" ∧ (parseMethodDescriptor yX0_pass.desc).map (fun d => d.parameters.length) = some 1 := by decide +kernel
abbrev wX0_pass : List Cond := .code yX0_pass cX0_pass 4 (some .int) :: bw
theorem pd_X0_openLine : yX0_openLine.cls = RX0 ∧ yX0_openLine.cls ≠ "java/lang/invoke/MethodHandle" ∧ yX0_openLine.cls ≠ "java/lang/invoke/VarHandle" ∧ (parseMethodDescriptor yX0_openLine.desc).map (fun d => d.parameters.length) = some 0 := by decide +kernel
abbrev wX0_openLine : List Cond := .code yX0_openLine cX0_openLine 1 none :: bw
theorem pd_X0_cutPiece : yX0_cutPiece.cls = RX0 ∧ yX0_cutPiece.cls ≠ "java/lang/invoke/MethodHandle" ∧ yX0_cutPiece.cls ≠ "java/lang/invoke/VarHandle" ∧ (parseMethodDescriptor yX0_cutPiece.desc).map (fun d => d.parameters.length) = some 0 := by decide +kernel
abbrev wX0_cutPiece : List Cond := .code yX0_cutPiece cX0_cutPiece 4 (some .int) :: bw
theorem pd_X0_passBlank : yX0_passBlank.cls = RX0 ∧ yX0_passBlank.cls ≠ "java/lang/invoke/MethodHandle" ∧ yX0_passBlank.cls ≠ "java/lang/invoke/VarHandle" ∧ (parseMethodDescriptor yX0_passBlank.desc).map (fun d => d.parameters.length) = some 1 := by decide +kernel
abbrev wX0_passBlank : List Cond := .code yX0_passBlank cX0_passBlank 2 (some .int) :: bw
theorem pd_X0_isBlank : yX0_isBlank.cls = RX0 ∧ yX0_isBlank.cls ≠ "java/lang/invoke/MethodHandle" ∧ yX0_isBlank.cls ≠ "java/lang/invoke/VarHandle" ∧ (parseMethodDescriptor yX0_isBlank.desc).map (fun d => d.parameters.length) = some 1 := by decide +kernel
abbrev wX0_isBlank : List Cond := .code yX0_isBlank cX0_isBlank 1 (some .boolean) :: bw
theorem pd_X0_passComment : yX0_passComment.cls = RX0 ∧ yX0_passComment.cls ≠ "java/lang/invoke/MethodHandle" ∧ yX0_passComment.cls ≠ "java/lang/invoke/VarHandle" ∧ (parseMethodDescriptor yX0_passComment.desc).map (fun d => d.parameters.length) = some 1 := by decide +kernel
abbrev wX0_passComment : List Cond := .code yX0_passComment cX0_passComment 3 (some .int) :: bw
theorem pd_X0_commentEnd : yX0_commentEnd.cls = RX0 ∧ yX0_commentEnd.cls ≠ "java/lang/invoke/MethodHandle" ∧ yX0_commentEnd.cls ≠ "java/lang/invoke/VarHandle" ∧ (parseMethodDescriptor yX0_commentEnd.desc).map (fun d => d.parameters.length) = some 1 := by decide +kernel
abbrev wX0_commentEnd : List Cond := .code yX0_commentEnd cX0_commentEnd 5 (some .int) :: bw
theorem pd_X0_stopAt : yX0_stopAt.cls = RX0 ∧ yX0_stopAt.cls ≠ "java/lang/invoke/MethodHandle" ∧ yX0_stopAt.cls ≠ "java/lang/invoke/VarHandle" ∧ (parseMethodDescriptor yX0_stopAt.desc).map (fun d => d.parameters.length) = some 2 := by decide +kernel
abbrev wX0_stopAt : List Cond := .code yX0_stopAt cX0_stopAt 3 (some .int) :: bw
theorem pd_X0_lineEnd : yX0_lineEnd.cls = RX0 ∧ yX0_lineEnd.cls ≠ "java/lang/invoke/MethodHandle" ∧ yX0_lineEnd.cls ≠ "java/lang/invoke/VarHandle" ∧ (parseMethodDescriptor yX0_lineEnd.desc).map (fun d => d.parameters.length) = some 1 := by decide +kernel
abbrev wX0_lineEnd : List Cond := .code yX0_lineEnd cX0_lineEnd 3 (some .int) :: bw
theorem pd_X0_isQuote : yX0_isQuote.cls = RX0 ∧ yX0_isQuote.cls ≠ "java/lang/invoke/MethodHandle" ∧ yX0_isQuote.cls ≠ "java/lang/invoke/VarHandle" ∧ (parseMethodDescriptor yX0_isQuote.desc).map (fun d => d.parameters.length) = some 1 := by decide +kernel
abbrev wX0_isQuote : List Cond := .code yX0_isQuote cX0_isQuote 1 (some .boolean) :: bw
theorem pd_X0_cutQuote : yX0_cutQuote.cls = RX0 ∧ yX0_cutQuote.cls ≠ "java/lang/invoke/MethodHandle" ∧ yX0_cutQuote.cls ≠ "java/lang/invoke/VarHandle" ∧ (parseMethodDescriptor yX0_cutQuote.desc).map (fun d => d.parameters.length) = some 1 := by decide +kernel
abbrev wX0_cutQuote : List Cond := .code yX0_cutQuote cX0_cutQuote 3 (some .int) :: bw
theorem pd_X0_quoteEnd : yX0_quoteEnd.cls = RX0 ∧ yX0_quoteEnd.cls ≠ "java/lang/invoke/MethodHandle" ∧ yX0_quoteEnd.cls ≠ "java/lang/invoke/VarHandle" ∧ (parseMethodDescriptor yX0_quoteEnd.desc).map (fun d => d.parameters.length) = some 2 := by decide +kernel
abbrev wX0_quoteEnd : List Cond := .code yX0_quoteEnd cX0_quoteEnd 6 (some .int) :: bw
theorem pd_X0_kindOfQuote : yX0_kindOfQuote.cls = RX0 ∧ yX0_kindOfQuote.cls ≠ "java/lang/invoke/MethodHandle" ∧ yX0_kindOfQuote.cls ≠ "java/lang/invoke/VarHandle" ∧ (parseMethodDescriptor yX0_kindOfQuote.desc).map (fun d => d.parameters.length) = some 1 := by decide +kernel
abbrev wX0_kindOfQuote : List Cond := .code yX0_kindOfQuote cX0_kindOfQuote 1 (some .int) :: bw
theorem pd_X0_addToken : yX0_addToken.cls = RX0 ∧ yX0_addToken.cls ≠ "java/lang/invoke/MethodHandle" ∧ yX0_addToken.cls ≠ "java/lang/invoke/VarHandle" ∧ (parseMethodDescriptor yX0_addToken.desc).map (fun d => d.parameters.length) = some 2 := by decide +kernel
abbrev wX0_addToken : List Cond := .code yX0_addToken cX0_addToken 6 (some .int) :: bw
theorem pd_X0_cutWide : yX0_cutWide.cls = RX0 ∧ yX0_cutWide.cls ≠ "java/lang/invoke/MethodHandle" ∧ yX0_cutWide.cls ≠ "java/lang/invoke/VarHandle" ∧ (parseMethodDescriptor yX0_cutWide.desc).map (fun d => d.parameters.length) = some 2 := by decide +kernel
abbrev wX0_cutWide : List Cond := .code yX0_cutWide cX0_cutWide 4 (some .int) :: bw
theorem pd_X0_isLetter : yX0_isLetter.cls = RX0 ∧ yX0_isLetter.cls ≠ "java/lang/invoke/MethodHandle" ∧ yX0_isLetter.cls ≠ "java/lang/invoke/VarHandle" ∧ (parseMethodDescriptor yX0_isLetter.desc).map (fun d => d.parameters.length) = some 1 := by decide +kernel
abbrev wX0_isLetter : List Cond := .code yX0_isLetter cX0_isLetter 1 (some .boolean) :: bw
theorem pd_X0_nameEnd : yX0_nameEnd.cls = RX0 ∧ yX0_nameEnd.cls ≠ "java/lang/invoke/MethodHandle" ∧ yX0_nameEnd.cls ≠ "java/lang/invoke/VarHandle" ∧ (parseMethodDescriptor yX0_nameEnd.desc).map (fun d => d.parameters.length) = some 1 := by decide +kernel
abbrev wX0_nameEnd : List Cond := .code yX0_nameEnd cX0_nameEnd 3 (some .int) :: bw
theorem pd_X0_isDigit : yX0_isDigit.cls = RX0 ∧ yX0_isDigit.cls ≠ "java/lang/invoke/MethodHandle" ∧ yX0_isDigit.cls ≠ "java/lang/invoke/VarHandle" ∧ (parseMethodDescriptor yX0_isDigit.desc).map (fun d => d.parameters.length) = some 1 := by decide +kernel
abbrev wX0_isDigit : List Cond := .code yX0_isDigit cX0_isDigit 1 (some .boolean) :: bw
theorem pd_X0_numberEnd : yX0_numberEnd.cls = RX0 ∧ yX0_numberEnd.cls ≠ "java/lang/invoke/MethodHandle" ∧ yX0_numberEnd.cls ≠ "java/lang/invoke/VarHandle" ∧ (parseMethodDescriptor yX0_numberEnd.desc).map (fun d => d.parameters.length) = some 2 := by decide +kernel
abbrev wX0_numberEnd : List Cond := .code yX0_numberEnd cX0_numberEnd 5 (some .int) :: bw
theorem pd_X0_goesOnNumber : yX0_goesOnNumber.cls = RX0 ∧ yX0_goesOnNumber.cls ≠ "java/lang/invoke/MethodHandle" ∧ yX0_goesOnNumber.cls ≠ "java/lang/invoke/VarHandle" ∧ (parseMethodDescriptor yX0_goesOnNumber.desc).map (fun d => d.parameters.length) = some 2 := by decide +kernel
abbrev wX0_goesOnNumber : List Cond := .code yX0_goesOnNumber cX0_goesOnNumber 2 (some .boolean) :: bw
theorem pd_X0_cutSign : yX0_cutSign.cls = RX0 ∧ yX0_cutSign.cls ≠ "java/lang/invoke/MethodHandle" ∧ yX0_cutSign.cls ≠ "java/lang/invoke/VarHandle" ∧ (parseMethodDescriptor yX0_cutSign.desc).map (fun d => d.parameters.length) = some 3 := by decide +kernel
abbrev wX0_cutSign : List Cond := .code yX0_cutSign cX0_cutSign 7 (some .int) :: bw
theorem pd_X0_hasSign : yX0_hasSign.cls = RX0 ∧ yX0_hasSign.cls ≠ "java/lang/invoke/MethodHandle" ∧ yX0_hasSign.cls ≠ "java/lang/invoke/VarHandle" ∧ (parseMethodDescriptor yX0_hasSign.desc).map (fun d => d.parameters.length) = some 5 := by decide +kernel
abbrev wX0_hasSign : List Cond := .code yX0_hasSign cX0_hasSign 6 (some .boolean) :: bw
theorem pd_J0_length : yJ0_length.cls = RJ0 ∧ yJ0_length.cls ≠ "java/lang/invoke/MethodHandle" ∧ yJ0_length.cls ≠ "java/lang/invoke/VarHandle" ∧ (parseMethodDescriptor yJ0_length.desc).map (fun d => d.parameters.length) = some 0 := by decide +kernel
abbrev wJ0_length : List Cond := .code yJ0_length cJ0_length 1 (some .int) :: bw
theorem pd_J0_coder : yJ0_coder.cls = RJ0 ∧ yJ0_coder.cls ≠ "java/lang/invoke/MethodHandle" ∧ yJ0_coder.cls ≠ "java/lang/invoke/VarHandle" ∧ (parseMethodDescriptor yJ0_coder.desc).map (fun d => d.parameters.length) = some 0 := by decide +kernel
abbrev wJ0_coder : List Cond := .code yJ0_coder cJ0_coder 1 (some .byte) :: bw
theorem pd_J0_charAt : yJ0_charAt.cls = RJ0 ∧ yJ0_charAt.cls ≠ "java/lang/invoke/MethodHandle" ∧ yJ0_charAt.cls ≠ "java/lang/invoke/VarHandle" ∧ (parseMethodDescriptor yJ0_charAt.desc).map (fun d => d.parameters.length) = some 1 := by decide +kernel
abbrev wJ0_charAt : List Cond := .code yJ0_charAt cJ0_charAt 2 (some .char) :: bw
theorem pd_J0_isLatin1 : yJ0_isLatin1.cls = RJ0 ∧ yJ0_isLatin1.cls ≠ "java/lang/invoke/MethodHandle" ∧ yJ0_isLatin1.cls ≠ "java/lang/invoke/VarHandle" ∧ (parseMethodDescriptor yJ0_isLatin1.desc).map (fun d => d.parameters.length) = some 0 := by decide +kernel
abbrev wJ0_isLatin1 : List Cond := .code yJ0_isLatin1 cJ0_isLatin1 1 (some .boolean) :: bw
theorem pd_J1_charAt : yJ1_charAt.cls = RJ1 ∧ yJ1_charAt.cls ≠ "java/lang/invoke/MethodHandle" ∧ yJ1_charAt.cls ≠ "java/lang/invoke/VarHandle" ∧ (parseMethodDescriptor yJ1_charAt.desc).map (fun d => d.parameters.length) = some 2 := by decide +kernel
abbrev wJ1_charAt : List Cond := .code yJ1_charAt cJ1_charAt 2 (some .char) :: bw
theorem pd_J0_checkIndex : yJ0_checkIndex.cls = RJ0 ∧ yJ0_checkIndex.cls ≠ "java/lang/invoke/MethodHandle" ∧ yJ0_checkIndex.cls ≠ "java/lang/invoke/VarHandle" ∧ (parseMethodDescriptor yJ0_checkIndex.desc).map (fun d => d.parameters.length) = some 2 := by decide +kernel
abbrev wJ0_checkIndex : List Cond := .code yJ0_checkIndex cJ0_checkIndex 2 none :: bw
theorem pd_J3_checkIndex : yJ3_checkIndex.cls = RJ3 ∧ yJ3_checkIndex.cls ≠ "java/lang/invoke/MethodHandle" ∧ yJ3_checkIndex.cls ≠ "java/lang/invoke/VarHandle" ∧ (parseMethodDescriptor yJ3_checkIndex.desc).map (fun d => d.parameters.length) = some 3 := by decide +kernel
abbrev wJ3_checkIndex : List Cond := .code yJ3_checkIndex cJ3_checkIndex 3 (some .int) :: bw
theorem pd_J2_charAt : yJ2_charAt.cls = RJ2 ∧ yJ2_charAt.cls ≠ "java/lang/invoke/MethodHandle" ∧ yJ2_charAt.cls ≠ "java/lang/invoke/VarHandle" ∧ (parseMethodDescriptor yJ2_charAt.desc).map (fun d => d.parameters.length) = some 2 := by decide +kernel
abbrev wJ2_charAt : List Cond := .code yJ2_charAt cJ2_charAt 2 (some .char) :: bw
theorem pd_J2_checkIndex : yJ2_checkIndex.cls = RJ2 ∧ yJ2_checkIndex.cls ≠ "java/lang/invoke/MethodHandle" ∧ yJ2_checkIndex.cls ≠ "java/lang/invoke/VarHandle" ∧ (parseMethodDescriptor yJ2_checkIndex.desc).map (fun d => d.parameters.length) = some 2 := by decide +kernel
abbrev wJ2_checkIndex : List Cond := .code yJ2_checkIndex cJ2_checkIndex 2 none :: bw
theorem pd_J2_length : yJ2_length.cls = RJ2 ∧ yJ2_length.cls ≠ "java/lang/invoke/MethodHandle" ∧ yJ2_length.cls ≠ "java/lang/invoke/VarHandle" ∧ (parseMethodDescriptor yJ2_length.desc).map (fun d => d.parameters.length) = some 1 := by decide +kernel
abbrev wJ2_length : List Cond := .code yJ2_length cJ2_length 1 (some .int) :: bw
theorem pd_J2_getChar : yJ2_getChar.cls = RJ2 ∧ yJ2_getChar.cls ≠ "java/lang/invoke/MethodHandle" ∧ yJ2_getChar.cls ≠ "java/lang/invoke/VarHandle" ∧ (parseMethodDescriptor yJ2_getChar.desc).map (fun d => d.parameters.length) = some 2 := by decide +kernel
abbrev wJ2_getChar : List Cond := .code yJ2_getChar cJ2_getChar 2 (some .char) :: bw
theorem pd_X0_closeLine : yX0_closeLine.cls = RX0 ∧ yX0_closeLine.cls ≠ "java/lang/invoke/MethodHandle" ∧ yX0_closeLine.cls ≠ "java/lang/invoke/VarHandle" ∧ (parseMethodDescriptor yX0_closeLine.desc).map (fun d => d.parameters.length) = some 0 := by decide +kernel
abbrev wX0_closeLine : List Cond := .code yX0_closeLine cX0_closeLine 1 (some .int) :: bw
theorem pd_X0_told : yX0_told.cls = RX0 ∧ yX0_told.cls ≠ "java/lang/invoke/MethodHandle" ∧ yX0_told.cls ≠ "java/lang/invoke/VarHandle" ∧ (parseMethodDescriptor yX0_told.desc).map (fun d => d.parameters.length) = some 1 := by decide +kernel
abbrev wX0_told : List Cond := .code yX0_told cX0_told 2 (some .int) :: bw
theorem pd_X0_isDirective : yX0_isDirective.cls = RX0 ∧ yX0_isDirective.cls ≠ "java/lang/invoke/MethodHandle" ∧ yX0_isDirective.cls ≠ "java/lang/invoke/VarHandle" ∧ (parseMethodDescriptor yX0_isDirective.desc).map (fun d => d.parameters.length) = some 0 := by decide +kernel
abbrev wX0_isDirective : List Cond := .code yX0_isDirective cX0_isDirective 1 (some .boolean) :: bw
theorem pd_X0_isAtHand : yX0_isAtHand.cls = RX0 ∧ yX0_isAtHand.cls ≠ "java/lang/invoke/MethodHandle" ∧ yX0_isAtHand.cls ≠ "java/lang/invoke/VarHandle" ∧ (parseMethodDescriptor yX0_isAtHand.desc).map (fun d => d.parameters.length) = some 1 := by decide +kernel
abbrev wX0_isAtHand : List Cond := .code yX0_isAtHand cX0_isAtHand 2 (some .boolean) :: bw
theorem pd_X0_bytesOf : yX0_bytesOf.cls = RX0 ∧ yX0_bytesOf.cls ≠ "java/lang/invoke/MethodHandle" ∧ yX0_bytesOf.cls ≠ "java/lang/invoke/VarHandle" ∧ (parseMethodDescriptor yX0_bytesOf.desc).map (fun d => d.parameters.length) = some 1 := by decide +kernel
abbrev wX0_bytesOf : List Cond := .code yX0_bytesOf cX0_bytesOf 2 (some .int) :: bw
theorem pd_X0_startOf : yX0_startOf.cls = RX0 ∧ yX0_startOf.cls ≠ "java/lang/invoke/MethodHandle" ∧ yX0_startOf.cls ≠ "java/lang/invoke/VarHandle" ∧ (parseMethodDescriptor yX0_startOf.desc).map (fun d => d.parameters.length) = some 1 := by decide +kernel
abbrev wX0_startOf : List Cond := .code yX0_startOf cX0_startOf 2 (some .int) :: bw
theorem pd_X0_token : yX0_token.cls = RX0 ∧ yX0_token.cls ≠ "java/lang/invoke/MethodHandle" ∧ yX0_token.cls ≠ "java/lang/invoke/VarHandle" ∧ (parseMethodDescriptor yX0_token.desc).map (fun d => d.parameters.length) = some 2 := by decide +kernel
abbrev wX0_token : List Cond := .code yX0_token cX0_token 5 (some .int) :: bw
theorem pd_X0_spelling : yX0_spelling.cls = RX0 ∧ yX0_spelling.cls ≠ "java/lang/invoke/MethodHandle" ∧ yX0_spelling.cls ≠ "java/lang/invoke/VarHandle" ∧ (parseMethodDescriptor yX0_spelling.desc).map (fun d => d.parameters.length) = some 2 := by decide +kernel
abbrev wX0_spelling : List Cond := .code yX0_spelling cX0_spelling 8 (some .long) :: bw
theorem pd_X1_init : yX1_init.cls = RX1 ∧ yX1_init.cls ≠ "java/lang/invoke/MethodHandle" ∧ yX1_init.cls ≠ "java/lang/invoke/VarHandle" ∧ (parseMethodDescriptor yX1_init.desc).map (fun d => d.parameters.length) = some 0 := by decide +kernel
abbrev wX1_init : List Cond := .code yX1_init cX1_init 1 none :: bw
theorem pd_X1_begin : yX1_begin.cls = RX1 ∧ yX1_begin.cls ≠ "java/lang/invoke/MethodHandle" ∧ yX1_begin.cls ≠ "java/lang/invoke/VarHandle" ∧ (parseMethodDescriptor yX1_begin.desc).map (fun d => d.parameters.length) = some 0 := by decide +kernel
abbrev wX1_begin : List Cond := .code yX1_begin cX1_begin 1 none :: bw
theorem pd_X1_feed : yX1_feed.cls = RX1 ∧ yX1_feed.cls ≠ "java/lang/invoke/MethodHandle" ∧ yX1_feed.cls ≠ "java/lang/invoke/VarHandle" ∧ (parseMethodDescriptor yX1_feed.desc).map (fun d => d.parameters.length) = some 2 := by decide +kernel
abbrev wX1_feed : List Cond := .code yX1_feed cX1_feed 5 (some .int) :: bw
theorem pd_X1_again : yX1_again.cls = RX1 ∧ yX1_again.cls ≠ "java/lang/invoke/MethodHandle" ∧ yX1_again.cls ≠ "java/lang/invoke/VarHandle" ∧ (parseMethodDescriptor yX1_again.desc).map (fun d => d.parameters.length) = some 2 := by decide +kernel
abbrev wX1_again : List Cond := .code yX1_again cX1_again 4 (some .int) :: bw
theorem pd_X1_clear : yX1_clear.cls = RX1 ∧ yX1_clear.cls ≠ "java/lang/invoke/MethodHandle" ∧ yX1_clear.cls ≠ "java/lang/invoke/VarHandle" ∧ (parseMethodDescriptor yX1_clear.desc).map (fun d => d.parameters.length) = some 0 := by decide +kernel
abbrev wX1_clear : List Cond := .code yX1_clear cX1_clear 2 (some .int) :: bw
theorem pd_X1_next : yX1_next.cls = RX1 ∧ yX1_next.cls ≠ "java/lang/invoke/MethodHandle" ∧ yX1_next.cls ≠ "java/lang/invoke/VarHandle" ∧ (parseMethodDescriptor yX1_next.desc).map (fun d => d.parameters.length) = some 0 := by decide +kernel
abbrev wX1_next : List Cond := .code yX1_next cX1_next 10 (some .int) :: bw
theorem pd_X1_layDown : yX1_layDown.cls = RX1 ∧ yX1_layDown.cls ≠ "java/lang/invoke/MethodHandle" ∧ yX1_layDown.cls ≠ "java/lang/invoke/VarHandle" ∧ (parseMethodDescriptor yX1_layDown.desc).map (fun d => d.parameters.length) = some 0 := by decide +kernel
abbrev wX1_layDown : List Cond := .code yX1_layDown cX1_layDown 3 none :: bw
theorem pd_X1_byteAt : yX1_byteAt.cls = RX1 ∧ yX1_byteAt.cls ≠ "java/lang/invoke/MethodHandle" ∧ yX1_byteAt.cls ≠ "java/lang/invoke/VarHandle" ∧ (parseMethodDescriptor yX1_byteAt.desc).map (fun d => d.parameters.length) = some 3 := by decide +kernel
abbrev wX1_byteAt : List Cond := .code yX1_byteAt cX1_byteAt 3 (some .int) :: bw
theorem pd_X1_isBlank : yX1_isBlank.cls = RX1 ∧ yX1_isBlank.cls ≠ "java/lang/invoke/MethodHandle" ∧ yX1_isBlank.cls ≠ "java/lang/invoke/VarHandle" ∧ (parseMethodDescriptor yX1_isBlank.desc).map (fun d => d.parameters.length) = some 1 := by decide +kernel
abbrev wX1_isBlank : List Cond := .code yX1_isBlank cX1_isBlank 1 (some .boolean) :: bw
theorem pd_X1_commentEnd : yX1_commentEnd.cls = RX1 ∧ yX1_commentEnd.cls ≠ "java/lang/invoke/MethodHandle" ∧ yX1_commentEnd.cls ≠ "java/lang/invoke/VarHandle" ∧ (parseMethodDescriptor yX1_commentEnd.desc).map (fun d => d.parameters.length) = some 1 := by decide +kernel
abbrev wX1_commentEnd : List Cond := .code yX1_commentEnd cX1_commentEnd 3 (some .int) :: bw
theorem pd_X1_stop : yX1_stop.cls = RX1 ∧ yX1_stop.cls ≠ "java/lang/invoke/MethodHandle" ∧ yX1_stop.cls ≠ "java/lang/invoke/VarHandle" ∧ (parseMethodDescriptor yX1_stop.desc).map (fun d => d.parameters.length) = some 2 := by decide +kernel
abbrev wX1_stop : List Cond := .code yX1_stop cX1_stop 3 (some .int) :: bw
theorem pd_X1_tokenSizeAt : yX1_tokenSizeAt.cls = RX1 ∧ yX1_tokenSizeAt.cls ≠ "java/lang/invoke/MethodHandle" ∧ yX1_tokenSizeAt.cls ≠ "java/lang/invoke/VarHandle" ∧ (parseMethodDescriptor yX1_tokenSizeAt.desc).map (fun d => d.parameters.length) = some 2 := by decide +kernel
abbrev wX1_tokenSizeAt : List Cond := .code yX1_tokenSizeAt cX1_tokenSizeAt 9 (some .int) :: bw
theorem pd_X1_quotedEnd : yX1_quotedEnd.cls = RX1 ∧ yX1_quotedEnd.cls ≠ "java/lang/invoke/MethodHandle" ∧ yX1_quotedEnd.cls ≠ "java/lang/invoke/VarHandle" ∧ (parseMethodDescriptor yX1_quotedEnd.desc).map (fun d => d.parameters.length) = some 2 := by decide +kernel
abbrev wX1_quotedEnd : List Cond := .code yX1_quotedEnd cX1_quotedEnd 5 (some .int) :: bw
theorem pd_X1_isLetter : yX1_isLetter.cls = RX1 ∧ yX1_isLetter.cls ≠ "java/lang/invoke/MethodHandle" ∧ yX1_isLetter.cls ≠ "java/lang/invoke/VarHandle" ∧ (parseMethodDescriptor yX1_isLetter.desc).map (fun d => d.parameters.length) = some 1 := by decide +kernel
abbrev wX1_isLetter : List Cond := .code yX1_isLetter cX1_isLetter 1 (some .boolean) :: bw
theorem pd_X1_isDigit : yX1_isDigit.cls = RX1 ∧ yX1_isDigit.cls ≠ "java/lang/invoke/MethodHandle" ∧ yX1_isDigit.cls ≠ "java/lang/invoke/VarHandle" ∧ (parseMethodDescriptor yX1_isDigit.desc).map (fun d => d.parameters.length) = some 1 := by decide +kernel
abbrev wX1_isDigit : List Cond := .code yX1_isDigit cX1_isDigit 1 (some .boolean) :: bw
theorem pd_X1_isOneOf : yX1_isOneOf.cls = RX1 ∧ yX1_isOneOf.cls ≠ "java/lang/invoke/MethodHandle" ∧ yX1_isOneOf.cls ≠ "java/lang/invoke/VarHandle" ∧ (parseMethodDescriptor yX1_isOneOf.desc).map (fun d => d.parameters.length) = some 2 := by decide +kernel
abbrev wX1_isOneOf : List Cond := .code yX1_isOneOf cX1_isOneOf 4 (some .boolean) :: bw
theorem pd_X1_signSize : yX1_signSize.cls = RX1 ∧ yX1_signSize.cls ≠ "java/lang/invoke/MethodHandle" ∧ yX1_signSize.cls ≠ "java/lang/invoke/VarHandle" ∧ (parseMethodDescriptor yX1_signSize.desc).map (fun d => d.parameters.length) = some 2 := by decide +kernel
abbrev wX1_signSize : List Cond := .code yX1_signSize cX1_signSize 8 (some .int) :: bw
theorem pd_X1_keep : yX1_keep.cls = RX1 ∧ yX1_keep.cls ≠ "java/lang/invoke/MethodHandle" ∧ yX1_keep.cls ≠ "java/lang/invoke/VarHandle" ∧ (parseMethodDescriptor yX1_keep.desc).map (fun d => d.parameters.length) = some 3 := by decide +kernel
abbrev wX1_keep : List Cond := .code yX1_keep cX1_keep 5 none :: bw
theorem pd_X1_told : yX1_told.cls = RX1 ∧ yX1_told.cls ≠ "java/lang/invoke/MethodHandle" ∧ yX1_told.cls ≠ "java/lang/invoke/VarHandle" ∧ (parseMethodDescriptor yX1_told.desc).map (fun d => d.parameters.length) = some 1 := by decide +kernel
abbrev wX1_told : List Cond := .code yX1_told cX1_told 2 (some .int) :: bw
theorem pd_X1_token : yX1_token.cls = RX1 ∧ yX1_token.cls ≠ "java/lang/invoke/MethodHandle" ∧ yX1_token.cls ≠ "java/lang/invoke/VarHandle" ∧ (parseMethodDescriptor yX1_token.desc).map (fun d => d.parameters.length) = some 2 := by decide +kernel
abbrev wX1_token : List Cond := .code yX1_token cX1_token 3 (some .int) :: bw
theorem pd_X1_kindOf : yX1_kindOf.cls = RX1 ∧ yX1_kindOf.cls ≠ "java/lang/invoke/MethodHandle" ∧ yX1_kindOf.cls ≠ "java/lang/invoke/VarHandle" ∧ (parseMethodDescriptor yX1_kindOf.desc).map (fun d => d.parameters.length) = some 1 := by decide +kernel
abbrev wX1_kindOf : List Cond := .code yX1_kindOf cX1_kindOf 5 (some .int) :: bw
theorem pd_X1_byteOf : yX1_byteOf.cls = RX1 ∧ yX1_byteOf.cls ≠ "java/lang/invoke/MethodHandle" ∧ yX1_byteOf.cls ≠ "java/lang/invoke/VarHandle" ∧ (parseMethodDescriptor yX1_byteOf.desc).map (fun d => d.parameters.length) = some 2 := by decide +kernel
abbrev wX1_byteOf : List Cond := .code yX1_byteOf cX1_byteOf 3 (some .int) :: bw
theorem pd_X1_spelling : yX1_spelling.cls = RX1 ∧ yX1_spelling.cls ≠ "java/lang/invoke/MethodHandle" ∧ yX1_spelling.cls ≠ "java/lang/invoke/VarHandle" ∧ (parseMethodDescriptor yX1_spelling.desc).map (fun d => d.parameters.length) = some 2 := by decide +kernel
abbrev wX1_spelling : List Cond := .code yX1_spelling cX1_spelling 6 (some .long) :: bw
