section
-- ===== PART A: goes FIRST, ahead of the names: the tables' words, and 'selects' of the private methods out of them =====
/-- a private method of a class that the tables say can be made, by its rows of tables_1 -/
def lw_okq (q : MethodName × Nat) : Prop := (q.1.cls ≠ "java/lang/invoke/MethodHandle" ∧ q.1.cls ≠ "java/lang/invoke/VarHandle") ∧ Cond.instantiable q.1.cls q.2 ∈ tables_1 ∧ Cond.privateMethod q.1 ∈ tables_1 ∧ Cond.instanceMethod q.1 ∈ tables_1
theorem lw_p0 : lw_okq (⟨"LineMill", "restart", "()V"⟩, 16) := ⟨⟨by decide +kernel, by decide +kernel⟩, List.mem_of_getElem? (i := 8) (by decide +kernel), List.mem_of_getElem? (i := 16) (by decide +kernel), List.mem_of_getElem? (i := 17) (by decide +kernel)⟩
theorem lw_p1 : lw_okq (⟨"LineMill", "append", "(I)V"⟩, 16) := ⟨⟨by decide +kernel, by decide +kernel⟩, List.mem_of_getElem? (i := 8) (by decide +kernel), List.mem_of_getElem? (i := 75) (by decide +kernel), List.mem_of_getElem? (i := 76) (by decide +kernel)⟩
theorem lw_p2 : lw_okq (⟨"LineMill", "byteAt", "(I)I"⟩, 16) := ⟨⟨by decide +kernel, by decide +kernel⟩, List.mem_of_getElem? (i := 8) (by decide +kernel), List.mem_of_getElem? (i := 85) (by decide +kernel), List.mem_of_getElem? (i := 86) (by decide +kernel)⟩
theorem lw_p3 : lw_okq (⟨"LineMill", "leftFrom", "(I)I"⟩, 16) := ⟨⟨by decide +kernel, by decide +kernel⟩, List.mem_of_getElem? (i := 8) (by decide +kernel), List.mem_of_getElem? (i := 101) (by decide +kernel), List.mem_of_getElem? (i := 102) (by decide +kernel)⟩
theorem lw_p4 : lw_okq (⟨"LineMill", "pass", "(I)I"⟩, 16) := ⟨⟨by decide +kernel, by decide +kernel⟩, List.mem_of_getElem? (i := 8) (by decide +kernel), List.mem_of_getElem? (i := 105) (by decide +kernel), List.mem_of_getElem? (i := 106) (by decide +kernel)⟩
theorem lw_p5 : lw_okq (⟨"LineMill", "openLine", "()V"⟩, 16) := ⟨⟨by decide +kernel, by decide +kernel⟩, List.mem_of_getElem? (i := 8) (by decide +kernel), List.mem_of_getElem? (i := 109) (by decide +kernel), List.mem_of_getElem? (i := 110) (by decide +kernel)⟩
theorem lw_p6 : lw_okq (⟨"LineMill", "cutPiece", "()I"⟩, 16) := ⟨⟨by decide +kernel, by decide +kernel⟩, List.mem_of_getElem? (i := 8) (by decide +kernel), List.mem_of_getElem? (i := 113) (by decide +kernel), List.mem_of_getElem? (i := 114) (by decide +kernel)⟩
theorem lw_p7 : lw_okq (⟨"LineMill", "passBlank", "(I)I"⟩, 16) := ⟨⟨by decide +kernel, by decide +kernel⟩, List.mem_of_getElem? (i := 8) (by decide +kernel), List.mem_of_getElem? (i := 117) (by decide +kernel), List.mem_of_getElem? (i := 118) (by decide +kernel)⟩
theorem lw_p8 : lw_okq (⟨"LineMill", "passComment", "(I)I"⟩, 16) := ⟨⟨by decide +kernel, by decide +kernel⟩, List.mem_of_getElem? (i := 8) (by decide +kernel), List.mem_of_getElem? (i := 124) (by decide +kernel), List.mem_of_getElem? (i := 125) (by decide +kernel)⟩
theorem lw_p9 : lw_okq (⟨"LineMill", "commentEnd", "(I)I"⟩, 16) := ⟨⟨by decide +kernel, by decide +kernel⟩, List.mem_of_getElem? (i := 8) (by decide +kernel), List.mem_of_getElem? (i := 128) (by decide +kernel), List.mem_of_getElem? (i := 129) (by decide +kernel)⟩
theorem lw_p10 : lw_okq (⟨"LineMill", "stopAt", "(II)I"⟩, 16) := ⟨⟨by decide +kernel, by decide +kernel⟩, List.mem_of_getElem? (i := 8) (by decide +kernel), List.mem_of_getElem? (i := 132) (by decide +kernel), List.mem_of_getElem? (i := 133) (by decide +kernel)⟩
theorem lw_p11 : lw_okq (⟨"LineMill", "lineEnd", "(I)I"⟩, 16) := ⟨⟨by decide +kernel, by decide +kernel⟩, List.mem_of_getElem? (i := 8) (by decide +kernel), List.mem_of_getElem? (i := 136) (by decide +kernel), List.mem_of_getElem? (i := 137) (by decide +kernel)⟩
theorem lw_p12 : lw_okq (⟨"LineMill", "cutQuote", "(I)I"⟩, 16) := ⟨⟨by decide +kernel, by decide +kernel⟩, List.mem_of_getElem? (i := 8) (by decide +kernel), List.mem_of_getElem? (i := 143) (by decide +kernel), List.mem_of_getElem? (i := 144) (by decide +kernel)⟩
theorem lw_p13 : lw_okq (⟨"LineMill", "quoteEnd", "(II)I"⟩, 16) := ⟨⟨by decide +kernel, by decide +kernel⟩, List.mem_of_getElem? (i := 8) (by decide +kernel), List.mem_of_getElem? (i := 147) (by decide +kernel), List.mem_of_getElem? (i := 148) (by decide +kernel)⟩
theorem lw_p14 : lw_okq (⟨"LineMill", "addToken", "(II)I"⟩, 16) := ⟨⟨by decide +kernel, by decide +kernel⟩, List.mem_of_getElem? (i := 8) (by decide +kernel), List.mem_of_getElem? (i := 154) (by decide +kernel), List.mem_of_getElem? (i := 155) (by decide +kernel)⟩
theorem lw_p15 : lw_okq (⟨"LineMill", "cutWide", "(II)I"⟩, 16) := ⟨⟨by decide +kernel, by decide +kernel⟩, List.mem_of_getElem? (i := 8) (by decide +kernel), List.mem_of_getElem? (i := 158) (by decide +kernel), List.mem_of_getElem? (i := 159) (by decide +kernel)⟩
def lw_privs_1 : List (MethodName × Nat) := [(⟨"LineMill", "restart", "()V"⟩, 16), (⟨"LineMill", "append", "(I)V"⟩, 16), (⟨"LineMill", "byteAt", "(I)I"⟩, 16), (⟨"LineMill", "leftFrom", "(I)I"⟩, 16), (⟨"LineMill", "pass", "(I)I"⟩, 16), (⟨"LineMill", "openLine", "()V"⟩, 16), (⟨"LineMill", "cutPiece", "()I"⟩, 16), (⟨"LineMill", "passBlank", "(I)I"⟩, 16), (⟨"LineMill", "passComment", "(I)I"⟩, 16), (⟨"LineMill", "commentEnd", "(I)I"⟩, 16), (⟨"LineMill", "stopAt", "(II)I"⟩, 16), (⟨"LineMill", "lineEnd", "(I)I"⟩, 16), (⟨"LineMill", "cutQuote", "(I)I"⟩, 16), (⟨"LineMill", "quoteEnd", "(II)I"⟩, 16), (⟨"LineMill", "addToken", "(II)I"⟩, 16), (⟨"LineMill", "cutWide", "(II)I"⟩, 16)]
theorem lw_r1 : ∀ q ∈ lw_privs_1, lw_okq q := List.forall_mem_cons.mpr ⟨lw_p0, List.forall_mem_cons.mpr ⟨lw_p1, List.forall_mem_cons.mpr ⟨lw_p2, List.forall_mem_cons.mpr ⟨lw_p3, List.forall_mem_cons.mpr ⟨lw_p4, List.forall_mem_cons.mpr ⟨lw_p5, List.forall_mem_cons.mpr ⟨lw_p6, List.forall_mem_cons.mpr ⟨lw_p7, List.forall_mem_cons.mpr ⟨lw_p8, List.forall_mem_cons.mpr ⟨lw_p9, List.forall_mem_cons.mpr ⟨lw_p10, List.forall_mem_cons.mpr ⟨lw_p11, List.forall_mem_cons.mpr ⟨lw_p12, List.forall_mem_cons.mpr ⟨lw_p13, List.forall_mem_cons.mpr ⟨lw_p14, List.forall_mem_cons.mpr ⟨lw_p15, fun _ h => absurd h List.not_mem_nil⟩⟩⟩⟩⟩⟩⟩⟩⟩⟩⟩⟩⟩⟩⟩⟩
theorem lw_p16 : lw_okq (⟨"LineMill", "nameEnd", "(I)I"⟩, 16) := ⟨⟨by decide +kernel, by decide +kernel⟩, List.mem_of_getElem? (i := 8) (by decide +kernel), List.mem_of_getElem? (i := 165) (by decide +kernel), List.mem_of_getElem? (i := 166) (by decide +kernel)⟩
theorem lw_p17 : lw_okq (⟨"LineMill", "numberEnd", "(II)I"⟩, 16) := ⟨⟨by decide +kernel, by decide +kernel⟩, List.mem_of_getElem? (i := 8) (by decide +kernel), List.mem_of_getElem? (i := 172) (by decide +kernel), List.mem_of_getElem? (i := 173) (by decide +kernel)⟩
theorem lw_p18 : lw_okq (⟨"LineMill", "cutSign", "(III)I"⟩, 16) := ⟨⟨by decide +kernel, by decide +kernel⟩, List.mem_of_getElem? (i := 8) (by decide +kernel), List.mem_of_getElem? (i := 179) (by decide +kernel), List.mem_of_getElem? (i := 180) (by decide +kernel)⟩
theorem lw_p19 : lw_okq (⟨"LineMill", "closeLine", "()I"⟩, 16) := ⟨⟨by decide +kernel, by decide +kernel⟩, List.mem_of_getElem? (i := 8) (by decide +kernel), List.mem_of_getElem? (i := 237) (by decide +kernel), List.mem_of_getElem? (i := 238) (by decide +kernel)⟩
theorem lw_p20 : lw_okq (⟨"LineMill", "isDirective", "()Z"⟩, 16) := ⟨⟨by decide +kernel, by decide +kernel⟩, List.mem_of_getElem? (i := 8) (by decide +kernel), List.mem_of_getElem? (i := 246) (by decide +kernel), List.mem_of_getElem? (i := 247) (by decide +kernel)⟩
theorem lw_p21 : lw_okq (⟨"LineMill", "isAtHand", "(I)Z"⟩, 16) := ⟨⟨by decide +kernel, by decide +kernel⟩, List.mem_of_getElem? (i := 8) (by decide +kernel), List.mem_of_getElem? (i := 250) (by decide +kernel), List.mem_of_getElem? (i := 251) (by decide +kernel)⟩
theorem lw_p22 : lw_okq (⟨"LineMillModel", "layDown", "()V"⟩, 20) := ⟨⟨by decide +kernel, by decide +kernel⟩, List.mem_of_getElem? (i := 269) (by decide +kernel), List.mem_of_getElem? (i := 360) (by decide +kernel), List.mem_of_getElem? (i := 361) (by decide +kernel)⟩
theorem lw_p23 : lw_okq (⟨"LineMillModel", "commentEnd", "(I)I"⟩, 20) := ⟨⟨by decide +kernel, by decide +kernel⟩, List.mem_of_getElem? (i := 269) (by decide +kernel), List.mem_of_getElem? (i := 370) (by decide +kernel), List.mem_of_getElem? (i := 371) (by decide +kernel)⟩
theorem lw_p24 : lw_okq (⟨"LineMillModel", "stop", "(II)I"⟩, 20) := ⟨⟨by decide +kernel, by decide +kernel⟩, List.mem_of_getElem? (i := 269) (by decide +kernel), List.mem_of_getElem? (i := 374) (by decide +kernel), List.mem_of_getElem? (i := 375) (by decide +kernel)⟩
theorem lw_p25 : lw_okq (⟨"LineMillModel", "tokenSizeAt", "(II)I"⟩, 20) := ⟨⟨by decide +kernel, by decide +kernel⟩, List.mem_of_getElem? (i := 269) (by decide +kernel), List.mem_of_getElem? (i := 378) (by decide +kernel), List.mem_of_getElem? (i := 379) (by decide +kernel)⟩
theorem lw_p26 : lw_okq (⟨"LineMillModel", "quotedEnd", "(II)I"⟩, 20) := ⟨⟨by decide +kernel, by decide +kernel⟩, List.mem_of_getElem? (i := 269) (by decide +kernel), List.mem_of_getElem? (i := 382) (by decide +kernel), List.mem_of_getElem? (i := 383) (by decide +kernel)⟩
theorem lw_p27 : lw_okq (⟨"LineMillModel", "signSize", "(II)I"⟩, 20) := ⟨⟨by decide +kernel, by decide +kernel⟩, List.mem_of_getElem? (i := 269) (by decide +kernel), List.mem_of_getElem? (i := 398) (by decide +kernel), List.mem_of_getElem? (i := 399) (by decide +kernel)⟩
theorem lw_p28 : lw_okq (⟨"LineMillModel", "keep", "(IIZ)V"⟩, 20) := ⟨⟨by decide +kernel, by decide +kernel⟩, List.mem_of_getElem? (i := 269) (by decide +kernel), List.mem_of_getElem? (i := 404) (by decide +kernel), List.mem_of_getElem? (i := 405) (by decide +kernel)⟩
theorem lw_p29 : lw_okq (⟨"LineMillModel", "kindOf", "(I)I"⟩, 20) := ⟨⟨by decide +kernel, by decide +kernel⟩, List.mem_of_getElem? (i := 269) (by decide +kernel), List.mem_of_getElem? (i := 416) (by decide +kernel), List.mem_of_getElem? (i := 417) (by decide +kernel)⟩
theorem lw_p30 : lw_okq (⟨"LineMillModel", "byteOf", "(II)I"⟩, 20) := ⟨⟨by decide +kernel, by decide +kernel⟩, List.mem_of_getElem? (i := 269) (by decide +kernel), List.mem_of_getElem? (i := 420) (by decide +kernel), List.mem_of_getElem? (i := 421) (by decide +kernel)⟩
def lw_privs_2 : List (MethodName × Nat) := [(⟨"LineMill", "nameEnd", "(I)I"⟩, 16), (⟨"LineMill", "numberEnd", "(II)I"⟩, 16), (⟨"LineMill", "cutSign", "(III)I"⟩, 16), (⟨"LineMill", "closeLine", "()I"⟩, 16), (⟨"LineMill", "isDirective", "()Z"⟩, 16), (⟨"LineMill", "isAtHand", "(I)Z"⟩, 16), (⟨"LineMillModel", "layDown", "()V"⟩, 20), (⟨"LineMillModel", "commentEnd", "(I)I"⟩, 20), (⟨"LineMillModel", "stop", "(II)I"⟩, 20), (⟨"LineMillModel", "tokenSizeAt", "(II)I"⟩, 20), (⟨"LineMillModel", "quotedEnd", "(II)I"⟩, 20), (⟨"LineMillModel", "signSize", "(II)I"⟩, 20), (⟨"LineMillModel", "keep", "(IIZ)V"⟩, 20), (⟨"LineMillModel", "kindOf", "(I)I"⟩, 20), (⟨"LineMillModel", "byteOf", "(II)I"⟩, 20)]
theorem lw_r2 : ∀ q ∈ lw_privs_2, lw_okq q := List.forall_mem_cons.mpr ⟨lw_p16, List.forall_mem_cons.mpr ⟨lw_p17, List.forall_mem_cons.mpr ⟨lw_p18, List.forall_mem_cons.mpr ⟨lw_p19, List.forall_mem_cons.mpr ⟨lw_p20, List.forall_mem_cons.mpr ⟨lw_p21, List.forall_mem_cons.mpr ⟨lw_p22, List.forall_mem_cons.mpr ⟨lw_p23, List.forall_mem_cons.mpr ⟨lw_p24, List.forall_mem_cons.mpr ⟨lw_p25, List.forall_mem_cons.mpr ⟨lw_p26, List.forall_mem_cons.mpr ⟨lw_p27, List.forall_mem_cons.mpr ⟨lw_p28, List.forall_mem_cons.mpr ⟨lw_p29, List.forall_mem_cons.mpr ⟨lw_p30, fun _ h => absurd h List.not_mem_nil⟩⟩⟩⟩⟩⟩⟩⟩⟩⟩⟩⟩⟩⟩⟩
def lw_privs : List (MethodName × Nat) := lw_privs_1 ++ (lw_privs_2)
def lw_tbl : List Cond := k2_sels lw_privs ++ tables_1
theorem lw_privs_ok : ∀ q ∈ lw_privs, lw_okq q := by
  show ∀ q ∈ lw_privs_1 ++ (lw_privs_2), lw_okq q
  exact List.forall_mem_append.mpr ⟨lw_r1, lw_r2⟩
end
section
/-! names: classes, fields, methods; the words bw that every method is given; which words are there (by place in the tables) -/
def RX0 : String := "LineMill"
def TX0 : u_T := fun k => match k with
  | 0 => ("LineMill", "text", "[J", true)
  | 1 => ("LineMill", "tokens", "[J", true)
  | 2 => ("LineMill", "length", "I", false)
  | 3 => ("LineMill", "at", "I", false)
  | 4 => ("LineMill", "line", "I", false)
  | 5 => ("LineMill", "tokenLines", "I", false)
  | 6 => ("LineMill", "openQuotes", "I", false)
  | 7 => ("LineMill", "faultLine", "I", false)
  | 8 => ("LineMill", "stopped", "Z", false)
  | 9 => ("LineMill", "count", "I", false)
  | 10 => ("LineMill", "found", "I", false)
  | 11 => ("LineMill", "before", "Z", false)
  | 12 => ("LineMill", "firstLine", "I", false)
  | 13 => ("LineMill", "excessLine", "I", false)
  | 14 => ("LineMill", "openTextsUpTo", "I", false)
  | _ => ("LineMill", "openCharactersUpTo", "I", false)
def tyX0 : Nat → FieldType := fun k => match k with
  | 0 => .array .long
  | 1 => .array .long
  | 2 => .int
  | 3 => .int
  | 4 => .int
  | 5 => .int
  | 6 => .int
  | 7 => .int
  | 8 => .boolean
  | 9 => .int
  | 10 => .int
  | 11 => .boolean
  | 12 => .int
  | 13 => .int
  | 14 => .int
  | _ => .int
theorem nmX0 : ∀ a, a < 16 → ∀ b, b < 16 → a ≠ b → (TX0 a).2.1 ≠ (TX0 b).2.1 := by decide +kernel
theorem okX0 : ∀ k, k < 16 → parseFieldDescriptor (TX0 k).2.2.1 = some (tyX0 k) := by decide +kernel
def RX1 : String := "LineMillModel"
def TX1 : u_T := fun k => match k with
  | 0 => ("LineMillModel", "textSize", "I", false)
  | 1 => ("LineMillModel", "text", "[B", true)
  | 2 => ("LineMillModel", "place", "I", false)
  | 3 => ("LineMillModel", "placeLine", "I", false)
  | 4 => ("LineMillModel", "stopped", "Z", false)
  | 5 => ("LineMillModel", "faultLine", "I", false)
  | 6 => ("LineMillModel", "lines", "I", false)
  | 7 => ("LineMillModel", "noEnds", "I", false)
  | 8 => ("LineMillModel", "left", "I", false)
  | 9 => ("LineMillModel", "store", "[B", true)
  | 10 => ("LineMillModel", "rawOf", "[I", true)
  | 11 => ("LineMillModel", "lineOf", "[I", true)
  | 12 => ("LineMillModel", "endLine", "I", false)
  | 13 => ("LineMillModel", "count", "I", false)
  | 14 => ("LineMillModel", "tokenAt", "[I", true)
  | 15 => ("LineMillModel", "tokenSize", "[I", true)
  | 16 => ("LineMillModel", "tokenLine", "[I", true)
  | 17 => ("LineMillModel", "tokenBefore", "[Z", true)
  | 18 => ("LineMillModel", "spelled", "I", false)
  | _ => ("LineMillModel", "spellings", "[B", true)
def tyX1 : Nat → FieldType := fun k => match k with
  | 0 => .int
  | 1 => .array .byte
  | 2 => .int
  | 3 => .int
  | 4 => .boolean
  | 5 => .int
  | 6 => .int
  | 7 => .int
  | 8 => .int
  | 9 => .array .byte
  | 10 => .array .int
  | 11 => .array .int
  | 12 => .int
  | 13 => .int
  | 14 => .array .int
  | 15 => .array .int
  | 16 => .array .int
  | 17 => .array .boolean
  | 18 => .int
  | _ => .array .byte
theorem nmX1 : ∀ a, a < 20 → ∀ b, b < 20 → a ≠ b → (TX1 a).2.1 ≠ (TX1 b).2.1 := by decide +kernel
theorem okX1 : ∀ k, k < 20 → parseFieldDescriptor (TX1 k).2.2.1 = some (tyX1 k) := by decide +kernel
def RJ0 : String := "java/lang/String"
def RJ1 : String := "java/lang/StringLatin1"
def RJ2 : String := "java/lang/StringUTF16"
def RJ3 : String := "jdk/internal/util/Preconditions"
def RL : String := "LineMillLaw"
abbrev cX0_init : ByteArray := prog_1_method_1_code
def yX0_init : MethodName := ⟨RX0, "<init>", "()V"⟩
abbrev cX0_restart : ByteArray := prog_1_method_10_code
def yX0_restart : MethodName := ⟨RX0, "restart", "()V"⟩
abbrev cX0_feed : ByteArray := prog_1_method_2_code
def yX0_feed : MethodName := ⟨RX0, "feed", "(JI)I"⟩
abbrev cX0_append : ByteArray := prog_1_method_11_code
def yX0_append : MethodName := ⟨RX0, "append", "(I)V"⟩
abbrev cX0_again : ByteArray := prog_1_method_3_code
def yX0_again : MethodName := ⟨RX0, "again", "(II)I"⟩
abbrev cX0_byteAt : ByteArray := prog_1_method_12_code
def yX0_byteAt : MethodName := ⟨RX0, "byteAt", "(I)I"⟩
abbrev cX0_clear : ByteArray := prog_1_method_4_code
def yX0_clear : MethodName := ⟨RX0, "clear", "()I"⟩
abbrev cX0_begin : ByteArray := prog_1_method_5_code
def yX0_begin : MethodName := ⟨RX0, "begin", "()V"⟩
abbrev cX0_next : ByteArray := prog_1_method_6_code
def yX0_next : MethodName := ⟨RX0, "next", "()I"⟩
abbrev cX0_leftFrom : ByteArray := prog_1_method_13_code
def yX0_leftFrom : MethodName := ⟨RX0, "leftFrom", "(I)I"⟩
abbrev cX0_pass : ByteArray := prog_1_method_14_code
def yX0_pass : MethodName := ⟨RX0, "pass", "(I)I"⟩
abbrev cX0_openLine : ByteArray := prog_1_method_15_code
def yX0_openLine : MethodName := ⟨RX0, "openLine", "()V"⟩
abbrev cX0_cutPiece : ByteArray := prog_1_method_18_code
def yX0_cutPiece : MethodName := ⟨RX0, "cutPiece", "()I"⟩
abbrev cX0_passBlank : ByteArray := prog_1_method_19_code
def yX0_passBlank : MethodName := ⟨RX0, "passBlank", "(I)I"⟩
abbrev cX0_isBlank : ByteArray := prog_1_method_37_code
def yX0_isBlank : MethodName := ⟨RX0, "isBlank", "(I)Z"⟩
abbrev cX0_passComment : ByteArray := prog_1_method_20_code
def yX0_passComment : MethodName := ⟨RX0, "passComment", "(I)I"⟩
abbrev cX0_commentEnd : ByteArray := prog_1_method_25_code
def yX0_commentEnd : MethodName := ⟨RX0, "commentEnd", "(I)I"⟩
abbrev cX0_stopAt : ByteArray := prog_1_method_17_code
def yX0_stopAt : MethodName := ⟨RX0, "stopAt", "(II)I"⟩
abbrev cX0_lineEnd : ByteArray := prog_1_method_26_code
def yX0_lineEnd : MethodName := ⟨RX0, "lineEnd", "(I)I"⟩
abbrev cX0_isQuote : ByteArray := prog_1_method_38_code
def yX0_isQuote : MethodName := ⟨RX0, "isQuote", "(I)Z"⟩
abbrev cX0_cutQuote : ByteArray := prog_1_method_21_code
def yX0_cutQuote : MethodName := ⟨RX0, "cutQuote", "(I)I"⟩
abbrev cX0_quoteEnd : ByteArray := prog_1_method_27_code
def yX0_quoteEnd : MethodName := ⟨RX0, "quoteEnd", "(II)I"⟩
abbrev cX0_kindOfQuote : ByteArray := prog_1_method_39_code
def yX0_kindOfQuote : MethodName := ⟨RX0, "kindOfQuote", "(I)I"⟩
abbrev cX0_addToken : ByteArray := prog_1_method_24_code
def yX0_addToken : MethodName := ⟨RX0, "addToken", "(II)I"⟩
abbrev cX0_cutWide : ByteArray := prog_1_method_22_code
def yX0_cutWide : MethodName := ⟨RX0, "cutWide", "(II)I"⟩
abbrev cX0_isLetter : ByteArray := prog_1_method_35_code
def yX0_isLetter : MethodName := ⟨RX0, "isLetter", "(I)Z"⟩
abbrev cX0_nameEnd : ByteArray := prog_1_method_28_code
def yX0_nameEnd : MethodName := ⟨RX0, "nameEnd", "(I)I"⟩
abbrev cX0_isDigit : ByteArray := prog_1_method_36_code
def yX0_isDigit : MethodName := ⟨RX0, "isDigit", "(I)Z"⟩
abbrev cX0_numberEnd : ByteArray := prog_1_method_29_code
def yX0_numberEnd : MethodName := ⟨RX0, "numberEnd", "(II)I"⟩
abbrev cX0_goesOnNumber : ByteArray := prog_1_method_34_code
def yX0_goesOnNumber : MethodName := ⟨RX0, "goesOnNumber", "(II)Z"⟩
abbrev cX0_cutSign : ByteArray := prog_1_method_23_code
def yX0_cutSign : MethodName := ⟨RX0, "cutSign", "(III)I"⟩
abbrev cX0_hasSign : ByteArray := prog_1_method_40_code
def yX0_hasSign : MethodName := ⟨RX0, "hasSign", "(Ljava/lang/String;IIII)Z"⟩
abbrev cJ0_length : ByteArray := prog_4_method_54_code
def yJ0_length : MethodName := ⟨RJ0, "length", "()I"⟩
abbrev cJ0_coder : ByteArray := prog_4_method_152_code
def yJ0_coder : MethodName := ⟨RJ0, "coder", "()B"⟩
abbrev cJ0_charAt : ByteArray := prog_4_method_56_code
def yJ0_charAt : MethodName := ⟨RJ0, "charAt", "(I)C"⟩
abbrev cJ0_isLatin1 : ByteArray := prog_4_method_154_code
def yJ0_isLatin1 : MethodName := ⟨RJ0, "isLatin1", "()Z"⟩
abbrev cJ1_charAt : ByteArray := prog_5_method_2_code
def yJ1_charAt : MethodName := ⟨RJ1, "charAt", "([BI)C"⟩
abbrev cJ0_checkIndex : ByteArray := prog_4_method_155_code
def yJ0_checkIndex : MethodName := ⟨RJ0, "checkIndex", "(II)V"⟩
abbrev cJ3_checkIndex : ByteArray := prog_7_method_11_code
def yJ3_checkIndex : MethodName := ⟨RJ3, "checkIndex", "(IILjava/util/function/BiFunction;)I"⟩
abbrev cJ2_charAt : ByteArray := prog_6_method_83_code
def yJ2_charAt : MethodName := ⟨RJ2, "charAt", "([BI)C"⟩
abbrev cJ2_checkIndex : ByteArray := prog_6_method_91_code
def yJ2_checkIndex : MethodName := ⟨RJ2, "checkIndex", "(I[B)V"⟩
abbrev cJ2_length : ByteArray := prog_6_method_6_code
def yJ2_length : MethodName := ⟨RJ2, "length", "([B)I"⟩
abbrev cJ2_getChar : ByteArray := prog_6_method_5_code
def yJ2_getChar : MethodName := ⟨RJ2, "getChar", "([BI)C"⟩
abbrev cX0_closeLine : ByteArray := prog_1_method_16_code
def yX0_closeLine : MethodName := ⟨RX0, "closeLine", "()I"⟩
abbrev cX0_told : ByteArray := prog_1_method_7_code
def yX0_told : MethodName := ⟨RX0, "told", "(I)I"⟩
abbrev cX0_isDirective : ByteArray := prog_1_method_31_code
def yX0_isDirective : MethodName := ⟨RX0, "isDirective", "()Z"⟩
abbrev cX0_isAtHand : ByteArray := prog_1_method_30_code
def yX0_isAtHand : MethodName := ⟨RX0, "isAtHand", "(I)Z"⟩
abbrev cX0_bytesOf : ByteArray := prog_1_method_33_code
def yX0_bytesOf : MethodName := ⟨RX0, "bytesOf", "(J)I"⟩
abbrev cX0_startOf : ByteArray := prog_1_method_32_code
def yX0_startOf : MethodName := ⟨RX0, "startOf", "(J)I"⟩
abbrev cX0_token : ByteArray := prog_1_method_8_code
def yX0_token : MethodName := ⟨RX0, "token", "(II)I"⟩
abbrev cX0_spelling : ByteArray := prog_1_method_9_code
def yX0_spelling : MethodName := ⟨RX0, "spelling", "(II)J"⟩
abbrev cX1_init : ByteArray := prog_3_method_1_code
def yX1_init : MethodName := ⟨RX1, "<init>", "()V"⟩
abbrev cX1_begin : ByteArray := prog_3_method_5_code
def yX1_begin : MethodName := ⟨RX1, "begin", "()V"⟩
abbrev cX1_feed : ByteArray := prog_3_method_2_code
def yX1_feed : MethodName := ⟨RX1, "feed", "(JI)I"⟩
abbrev cX1_again : ByteArray := prog_3_method_3_code
def yX1_again : MethodName := ⟨RX1, "again", "(II)I"⟩
abbrev cX1_clear : ByteArray := prog_3_method_4_code
def yX1_clear : MethodName := ⟨RX1, "clear", "()I"⟩
abbrev cX1_next : ByteArray := prog_3_method_18_code
def yX1_next : MethodName := ⟨RX1, "next", "()I"⟩
abbrev cX1_layDown : ByteArray := prog_3_method_14_code
def yX1_layDown : MethodName := ⟨RX1, "layDown", "()V"⟩
abbrev cX1_byteAt : ByteArray := prog_3_method_9_code
def yX1_byteAt : MethodName := ⟨RX1, "byteAt", "([BII)I"⟩
abbrev cX1_isBlank : ByteArray := prog_3_method_8_code
def yX1_isBlank : MethodName := ⟨RX1, "isBlank", "(I)Z"⟩
abbrev cX1_commentEnd : ByteArray := prog_3_method_16_code
def yX1_commentEnd : MethodName := ⟨RX1, "commentEnd", "(I)I"⟩
abbrev cX1_stop : ByteArray := prog_3_method_15_code
def yX1_stop : MethodName := ⟨RX1, "stop", "(II)I"⟩
abbrev cX1_tokenSizeAt : ByteArray := prog_3_method_13_code
def yX1_tokenSizeAt : MethodName := ⟨RX1, "tokenSizeAt", "(II)I"⟩
abbrev cX1_quotedEnd : ByteArray := prog_3_method_10_code
def yX1_quotedEnd : MethodName := ⟨RX1, "quotedEnd", "(II)I"⟩
abbrev cX1_isLetter : ByteArray := prog_3_method_6_code
def yX1_isLetter : MethodName := ⟨RX1, "isLetter", "(I)Z"⟩
abbrev cX1_isDigit : ByteArray := prog_3_method_7_code
def yX1_isDigit : MethodName := ⟨RX1, "isDigit", "(I)Z"⟩
abbrev cX1_isOneOf : ByteArray := prog_3_method_11_code
def yX1_isOneOf : MethodName := ⟨RX1, "isOneOf", "(ILjava/lang/String;)Z"⟩
abbrev cX1_signSize : ByteArray := prog_3_method_12_code
def yX1_signSize : MethodName := ⟨RX1, "signSize", "(II)I"⟩
abbrev cX1_keep : ByteArray := prog_3_method_17_code
def yX1_keep : MethodName := ⟨RX1, "keep", "(IIZ)V"⟩
abbrev cX1_told : ByteArray := prog_3_method_19_code
def yX1_told : MethodName := ⟨RX1, "told", "(I)I"⟩
abbrev cX1_token : ByteArray := prog_3_method_22_code
def yX1_token : MethodName := ⟨RX1, "token", "(II)I"⟩
abbrev cX1_kindOf : ByteArray := prog_3_method_21_code
def yX1_kindOf : MethodName := ⟨RX1, "kindOf", "(I)I"⟩
abbrev cX1_byteOf : ByteArray := prog_3_method_20_code
def yX1_byteOf : MethodName := ⟨RX1, "byteOf", "(II)I"⟩
abbrev cX1_spelling : ByteArray := prog_3_method_23_code
def yX1_spelling : MethodName := ⟨RX1, "spelling", "(II)J"⟩
abbrev vwCl : List vw_C := [(RX0, TX0, 16), (RX1, TX1, 20)]
def bw : List Cond := lw_tbl.filter (fun w => goodWord w)
theorem bw_t {w : Cond} (h : w ∈ tables_1) (hg : goodWord w = true) : w ∈ bw := List.mem_filter.mpr ⟨List.mem_append_right _ h, hg⟩
theorem bw_p {w : Cond} (i : Nat) (h : (k2_sels lw_privs)[i]? = some w) (hg : goodWord w = true) : w ∈ bw := List.mem_filter.mpr ⟨List.mem_append_left _ (List.mem_of_getElem? h), hg⟩
theorem t_1 {w : Cond} (i : Nat) (h : tables_1_1[i]? = some w) : w ∈ tables_1 := List.mem_append_left _ (List.mem_of_getElem? h)
theorem t_2 {w : Cond} (i : Nat) (h : tables_1_2[i]? = some w) : w ∈ tables_1 := List.mem_append_right _ (List.mem_of_getElem? h)
theorem bw_in {w : Cond} (h : w ∈ bw) : w ∈ lw_tbl := (List.mem_filter.mp h).1
theorem bw_good {w : Cond} (h : w ∈ bw) : (w.onTables && w.keeps) = true ∨ ∃ ty, w = .arrayClass ty := good_of_word (List.mem_filter.mp h).2
theorem gC {Ts : List Cond} (hT : ∀ w ∈ bw, w ∈ Ts) {w0 : Cond} (h0 : w0 ∈ bw) : GoodIn Ts (w0 :: bw) := fun w h => (List.mem_cons.mp h).elim (fun e => by rw [e]; exact ⟨hT _ h0, bw_good h0⟩) (fun h => ⟨hT _ h, bw_good h⟩)
theorem gV {Ts : List Cond} (hT : ∀ w ∈ bw, w ∈ Ts) {own C : String} {idx n : Nat} {y : MethodName} {c : ByteArray} {r : Option FieldType} (h1 : Cond.methodLink own idx y ∈ bw) (h2 : Cond.instanceMethod y ∈ bw) (h3 : Cond.selects C y y ∈ bw) (h4 : Cond.initialized C ∈ bw) (h5 : Cond.code y c n r ∈ bw) : GoodIn Ts (wsV own idx C y (Cond.code y c n r :: bw)) := by
  intro w h
  unfold wsV at h
  rcases List.mem_append.mp h with h | h
  · have hw : w ∈ bw := by
      rcases List.mem_cons.mp h with rfl | h
      · exact h1
      rcases List.mem_cons.mp h with rfl | h
      · exact h2
      rcases List.mem_cons.mp h with rfl | h
      · exact h3
      rcases List.mem_cons.mp h with rfl | h
      · exact h4
      cases h
    exact ⟨hT w hw, bw_good hw⟩
  · exact gC hT h5 w h
theorem gS {Ts : List Cond} (hT : ∀ w ∈ bw, w ∈ Ts) {own : String} {idx n : Nat} {y : MethodName} {c : ByteArray} {r : Option FieldType} (h1 : Cond.methodLink own idx y ∈ bw) (h2 : Cond.static y ∈ bw) (h4 : Cond.initialized own ∈ bw) (h5 : Cond.code y c n r ∈ bw) : GoodIn Ts (wsS own idx y (Cond.code y c n r :: bw)) := by
  intro w h
  unfold wsS at h
  rcases List.mem_append.mp h with h | h
  · have hw : w ∈ bw := by
      rcases List.mem_cons.mp h with rfl | h
      · exact h1
      rcases List.mem_cons.mp h with rfl | h
      · exact h2
      rcases List.mem_cons.mp h with rfl | h
      · exact h4
      cases h
    exact ⟨hT w hw, bw_good hw⟩
  · exact gC hT h5 w h
theorem bc {w0 : Cond} : ∀ w ∈ bw, w ∈ w0 :: bw := fun _ h => List.mem_cons_of_mem _ h
theorem ini_L : Cond.initialized RL ∈ bw := (bw_t (t_1 0 rfl) rfl)
theorem ini_X0 : Cond.initialized RX0 ∈ bw := (bw_t (t_1 1 rfl) rfl)
theorem ini_X1 : Cond.initialized RX1 ∈ bw := (bw_t (t_1 2 rfl) rfl)
theorem ini_J0 : Cond.initialized RJ0 ∈ bw := (bw_t (t_1 3 rfl) rfl)
theorem ini_J1 : Cond.initialized RJ1 ∈ bw := (bw_t (t_1 4 rfl) rfl)
theorem ini_J3 : Cond.initialized RJ3 ∈ bw := (bw_t (t_1 5 rfl) rfl)
theorem ini_J2 : Cond.initialized RJ2 ∈ bw := (bw_t (t_1 6 rfl) rfl)
theorem ck_X0 : Cond.classLink RL 7 RX0 ∈ bw := (bw_t (t_1 7 rfl) rfl)
theorem it_X0 : Cond.instantiable RX0 16 ∈ bw := (bw_t (t_1 8 rfl) rfl)
theorem ml_L_9 : Cond.methodLink RL 9 yX0_init ∈ bw := (bw_t (t_1 9 rfl) rfl)
theorem im_X0_init : Cond.instanceMethod yX0_init ∈ bw := (bw_t (t_1 10 rfl) rfl)
theorem co_X0_init : Cond.code yX0_init cX0_init 1 none ∈ bw := (bw_t (t_1 11 rfl) rfl)
theorem ml_X0_1 : Cond.methodLink RX0 1 objectInit ∈ bw := (bw_t (t_1 12 rfl) rfl)
theorem im_O_init : Cond.instanceMethod objectInit ∈ bw := (bw_t (t_1 13 rfl) rfl)
theorem co_O_init : Cond.code objectInit ⟨#[0xb1]⟩ 1 none ∈ bw := (bw_t (t_1 14 rfl) rfl)
theorem ml_X0_16 : Cond.methodLink RX0 16 yX0_restart ∈ bw := (bw_t (t_1 15 rfl) rfl)
theorem im_X0_restart : Cond.instanceMethod yX0_restart ∈ bw := (bw_t (t_1 17 rfl) rfl)
theorem co_X0_restart : Cond.code yX0_restart cX0_restart 1 none ∈ bw := (bw_t (t_1 18 rfl) rfl)
theorem fl_X0_9 : Cond.fieldLink RX0 9 "LineMill" "text" "[J" ∈ bw := (bw_t (t_1 19 rfl) rfl)
theorem fl_X0_13 : Cond.fieldLink RX0 13 "LineMill" "tokens" "[J" ∈ bw := (bw_t (t_1 20 rfl) rfl)
theorem fl_X0_19 : Cond.fieldLink RX0 19 "LineMill" "length" "I" ∈ bw := (bw_t (t_1 21 rfl) rfl)
theorem fl_X0_39 : Cond.fieldLink RX0 39 "LineMill" "at" "I" ∈ bw := (bw_t (t_1 22 rfl) rfl)
theorem fl_X0_68 : Cond.fieldLink RX0 68 "LineMill" "line" "I" ∈ bw := (bw_t (t_1 23 rfl) rfl)
theorem fl_X0_62 : Cond.fieldLink RX0 62 "LineMill" "tokenLines" "I" ∈ bw := (bw_t (t_1 24 rfl) rfl)
theorem fl_X0_85 : Cond.fieldLink RX0 85 "LineMill" "openQuotes" "I" ∈ bw := (bw_t (t_1 25 rfl) rfl)
theorem fl_X0_65 : Cond.fieldLink RX0 65 "LineMill" "faultLine" "I" ∈ bw := (bw_t (t_1 26 rfl) rfl)
theorem fl_X0_35 : Cond.fieldLink RX0 35 "LineMill" "stopped" "Z" ∈ bw := (bw_t (t_1 27 rfl) rfl)
theorem fl_X0_32 : Cond.fieldLink RX0 32 "LineMill" "count" "I" ∈ bw := (bw_t (t_1 28 rfl) rfl)
theorem fl_X0_90 : Cond.fieldLink RX0 90 "LineMill" "found" "I" ∈ bw := (bw_t (t_1 29 rfl) rfl)
theorem fl_X0_93 : Cond.fieldLink RX0 93 "LineMill" "before" "Z" ∈ bw := (bw_t (t_1 30 rfl) rfl)
theorem fl_X0_102 : Cond.fieldLink RX0 102 "LineMill" "firstLine" "I" ∈ bw := (bw_t (t_1 31 rfl) rfl)
theorem fl_X0_109 : Cond.fieldLink RX0 109 "LineMill" "excessLine" "I" ∈ bw := (bw_t (t_1 32 rfl) rfl)
theorem fl_X0_96 : Cond.fieldLink RX0 96 "LineMill" "openTextsUpTo" "I" ∈ bw := (bw_t (t_1 33 rfl) rfl)
theorem fl_X0_99 : Cond.fieldLink RX0 99 "LineMill" "openCharactersUpTo" "I" ∈ bw := (bw_t (t_1 34 rfl) rfl)
theorem ac_long : Cond.arrayClass .long ∈ bw := (bw_t (t_1 68 rfl) rfl)
theorem ml_L_15 : Cond.methodLink RL 15 yX0_feed ∈ bw := (bw_t (t_1 69 rfl) rfl)
theorem im_X0_feed : Cond.instanceMethod yX0_feed ∈ bw := (bw_t (t_1 70 rfl) rfl)
theorem se_X0_feed : Cond.selects RX0 yX0_feed yX0_feed ∈ bw := (bw_t (t_1 71 rfl) rfl)
theorem co_X0_feed : Cond.code yX0_feed cX0_feed 5 (some .int) ∈ bw := (bw_t (t_1 72 rfl) rfl)
theorem cn_X0_23 : Cond.constant RX0 23 (nI 32768) ∈ bw := (bw_t (t_1 73 rfl) rfl)
theorem ml_X0_24 : Cond.methodLink RX0 24 yX0_append ∈ bw := (bw_t (t_1 74 rfl) rfl)
theorem im_X0_append : Cond.instanceMethod yX0_append ∈ bw := (bw_t (t_1 76 rfl) rfl)
theorem co_X0_append : Cond.code yX0_append cX0_append 4 none ∈ bw := (bw_t (t_1 77 rfl) rfl)
theorem cn_X0_83 : Cond.constantLong RX0 83 (lN 255) ∈ bw := (bw_t (t_1 78 rfl) rfl)
theorem cn_X0_88 : Cond.constantLong RX0 88 (-1) ∈ bw := (bw_t (t_1 79 rfl) rfl)
theorem ml_L_20 : Cond.methodLink RL 20 yX0_again ∈ bw := (bw_t (t_1 80 rfl) rfl)
theorem im_X0_again : Cond.instanceMethod yX0_again ∈ bw := (bw_t (t_1 81 rfl) rfl)
theorem se_X0_again : Cond.selects RX0 yX0_again yX0_again ∈ bw := (bw_t (t_1 82 rfl) rfl)
theorem co_X0_again : Cond.code yX0_again cX0_again 4 (some .int) ∈ bw := (bw_t (t_1 83 rfl) rfl)
theorem ml_X0_28 : Cond.methodLink RX0 28 yX0_byteAt ∈ bw := (bw_t (t_1 84 rfl) rfl)
theorem im_X0_byteAt : Cond.instanceMethod yX0_byteAt ∈ bw := (bw_t (t_1 86 rfl) rfl)
theorem co_X0_byteAt : Cond.code yX0_byteAt cX0_byteAt 3 (some .int) ∈ bw := (bw_t (t_1 87 rfl) rfl)
theorem ml_L_25 : Cond.methodLink RL 25 yX0_clear ∈ bw := (bw_t (t_1 88 rfl) rfl)
theorem im_X0_clear : Cond.instanceMethod yX0_clear ∈ bw := (bw_t (t_1 89 rfl) rfl)
theorem se_X0_clear : Cond.selects RX0 yX0_clear yX0_clear ∈ bw := (bw_t (t_1 90 rfl) rfl)
theorem co_X0_clear : Cond.code yX0_clear cX0_clear 2 (some .int) ∈ bw := (bw_t (t_1 91 rfl) rfl)
theorem ml_L_30 : Cond.methodLink RL 30 yX0_begin ∈ bw := (bw_t (t_1 92 rfl) rfl)
theorem im_X0_begin : Cond.instanceMethod yX0_begin ∈ bw := (bw_t (t_1 93 rfl) rfl)
theorem se_X0_begin : Cond.selects RX0 yX0_begin yX0_begin ∈ bw := (bw_t (t_1 94 rfl) rfl)
theorem co_X0_begin : Cond.code yX0_begin cX0_begin 1 none ∈ bw := (bw_t (t_1 95 rfl) rfl)
theorem ml_L_34 : Cond.methodLink RL 34 yX0_next ∈ bw := (bw_t (t_1 96 rfl) rfl)
theorem im_X0_next : Cond.instanceMethod yX0_next ∈ bw := (bw_t (t_1 97 rfl) rfl)
theorem se_X0_next : Cond.selects RX0 yX0_next yX0_next ∈ bw := (bw_t (t_1 98 rfl) rfl)
theorem co_X0_next : Cond.code yX0_next cX0_next 4 (some .int) ∈ bw := (bw_t (t_1 99 rfl) rfl)
theorem ml_X0_42 : Cond.methodLink RX0 42 yX0_leftFrom ∈ bw := (bw_t (t_1 100 rfl) rfl)
theorem im_X0_leftFrom : Cond.instanceMethod yX0_leftFrom ∈ bw := (bw_t (t_1 102 rfl) rfl)
theorem co_X0_leftFrom : Cond.code yX0_leftFrom cX0_leftFrom 3 (some .int) ∈ bw := (bw_t (t_1 103 rfl) rfl)
theorem ml_X0_45 : Cond.methodLink RX0 45 yX0_pass ∈ bw := (bw_t (t_1 104 rfl) rfl)
theorem im_X0_pass : Cond.instanceMethod yX0_pass ∈ bw := (bw_t (t_1 106 rfl) rfl)
theorem co_X0_pass : Cond.code yX0_pass cX0_pass 4 (some .int) ∈ bw := (bw_t (t_1 107 rfl) rfl)
theorem ml_X0_48 : Cond.methodLink RX0 48 yX0_openLine ∈ bw := (bw_t (t_1 108 rfl) rfl)
theorem im_X0_openLine : Cond.instanceMethod yX0_openLine ∈ bw := (bw_t (t_1 110 rfl) rfl)
theorem co_X0_openLine : Cond.code yX0_openLine cX0_openLine 1 none ∈ bw := (bw_t (t_1 111 rfl) rfl)
theorem ml_X0_51 : Cond.methodLink RX0 51 yX0_cutPiece ∈ bw := (bw_t (t_1 112 rfl) rfl)
theorem im_X0_cutPiece : Cond.instanceMethod yX0_cutPiece ∈ bw := (bw_t (t_1 114 rfl) rfl)
theorem co_X0_cutPiece : Cond.code yX0_cutPiece cX0_cutPiece 4 (some .int) ∈ bw := (bw_t (t_1 115 rfl) rfl)
theorem ml_X0_112 : Cond.methodLink RX0 112 yX0_passBlank ∈ bw := (bw_t (t_1 116 rfl) rfl)
theorem im_X0_passBlank : Cond.instanceMethod yX0_passBlank ∈ bw := (bw_t (t_1 118 rfl) rfl)
theorem co_X0_passBlank : Cond.code yX0_passBlank cX0_passBlank 2 (some .int) ∈ bw := (bw_t (t_1 119 rfl) rfl)
theorem ml_X0_115 : Cond.methodLink RX0 115 yX0_isBlank ∈ bw := (bw_t (t_1 120 rfl) rfl)
theorem sm_X0_isBlank : Cond.static yX0_isBlank ∈ bw := (bw_t (t_1 121 rfl) rfl)
theorem co_X0_isBlank : Cond.code yX0_isBlank cX0_isBlank 1 (some .boolean) ∈ bw := (bw_t (t_1 122 rfl) rfl)
theorem ml_X0_118 : Cond.methodLink RX0 118 yX0_passComment ∈ bw := (bw_t (t_1 123 rfl) rfl)
theorem im_X0_passComment : Cond.instanceMethod yX0_passComment ∈ bw := (bw_t (t_1 125 rfl) rfl)
theorem co_X0_passComment : Cond.code yX0_passComment cX0_passComment 3 (some .int) ∈ bw := (bw_t (t_1 126 rfl) rfl)
theorem ml_X0_152 : Cond.methodLink RX0 152 yX0_commentEnd ∈ bw := (bw_t (t_1 127 rfl) rfl)
theorem im_X0_commentEnd : Cond.instanceMethod yX0_commentEnd ∈ bw := (bw_t (t_1 129 rfl) rfl)
theorem co_X0_commentEnd : Cond.code yX0_commentEnd cX0_commentEnd 5 (some .int) ∈ bw := (bw_t (t_1 130 rfl) rfl)
theorem ml_X0_105 : Cond.methodLink RX0 105 yX0_stopAt ∈ bw := (bw_t (t_1 131 rfl) rfl)
theorem im_X0_stopAt : Cond.instanceMethod yX0_stopAt ∈ bw := (bw_t (t_1 133 rfl) rfl)
theorem co_X0_stopAt : Cond.code yX0_stopAt cX0_stopAt 3 (some .int) ∈ bw := (bw_t (t_1 134 rfl) rfl)
theorem ml_X0_121 : Cond.methodLink RX0 121 yX0_lineEnd ∈ bw := (bw_t (t_1 135 rfl) rfl)
theorem im_X0_lineEnd : Cond.instanceMethod yX0_lineEnd ∈ bw := (bw_t (t_1 137 rfl) rfl)
theorem co_X0_lineEnd : Cond.code yX0_lineEnd cX0_lineEnd 3 (some .int) ∈ bw := (bw_t (t_1 138 rfl) rfl)
theorem ml_X0_124 : Cond.methodLink RX0 124 yX0_isQuote ∈ bw := (bw_t (t_1 139 rfl) rfl)
theorem sm_X0_isQuote : Cond.static yX0_isQuote ∈ bw := (bw_t (t_1 140 rfl) rfl)
theorem co_X0_isQuote : Cond.code yX0_isQuote cX0_isQuote 1 (some .boolean) ∈ bw := (bw_t (t_1 141 rfl) rfl)
theorem ml_X0_127 : Cond.methodLink RX0 127 yX0_cutQuote ∈ bw := (bw_t (t_1 142 rfl) rfl)
theorem im_X0_cutQuote : Cond.instanceMethod yX0_cutQuote ∈ bw := (bw_t (t_1 144 rfl) rfl)
theorem co_X0_cutQuote : Cond.code yX0_cutQuote cX0_cutQuote 3 (some .int) ∈ bw := (bw_t (t_1 145 rfl) rfl)
theorem ml_X0_155 : Cond.methodLink RX0 155 yX0_quoteEnd ∈ bw := (bw_t (t_1 146 rfl) rfl)
theorem im_X0_quoteEnd : Cond.instanceMethod yX0_quoteEnd ∈ bw := (bw_t (t_1 148 rfl) rfl)
theorem co_X0_quoteEnd : Cond.code yX0_quoteEnd cX0_quoteEnd 6 (some .int) ∈ bw := (bw_t (t_1 149 rfl) rfl)
theorem ml_X0_158 : Cond.methodLink RX0 158 yX0_kindOfQuote ∈ bw := (bw_t (t_1 150 rfl) rfl)
theorem sm_X0_kindOfQuote : Cond.static yX0_kindOfQuote ∈ bw := (bw_t (t_1 151 rfl) rfl)
theorem co_X0_kindOfQuote : Cond.code yX0_kindOfQuote cX0_kindOfQuote 1 (some .int) ∈ bw := (bw_t (t_1 152 rfl) rfl)
theorem ml_X0_139 : Cond.methodLink RX0 139 yX0_addToken ∈ bw := (bw_t (t_1 153 rfl) rfl)
theorem im_X0_addToken : Cond.instanceMethod yX0_addToken ∈ bw := (bw_t (t_1 155 rfl) rfl)
theorem co_X0_addToken : Cond.code yX0_addToken cX0_addToken 6 (some .int) ∈ bw := (bw_t (t_1 156 rfl) rfl)
theorem ml_X0_130 : Cond.methodLink RX0 130 yX0_cutWide ∈ bw := (bw_t (t_1 157 rfl) rfl)
theorem im_X0_cutWide : Cond.instanceMethod yX0_cutWide ∈ bw := (bw_t (t_1 159 rfl) rfl)
theorem co_X0_cutWide : Cond.code yX0_cutWide cX0_cutWide 4 (some .int) ∈ bw := (bw_t (t_1 160 rfl) rfl)
theorem ml_X0_133 : Cond.methodLink RX0 133 yX0_isLetter ∈ bw := (bw_t (t_1 161 rfl) rfl)
theorem sm_X0_isLetter : Cond.static yX0_isLetter ∈ bw := (bw_t (t_1 162 rfl) rfl)
theorem co_X0_isLetter : Cond.code yX0_isLetter cX0_isLetter 1 (some .boolean) ∈ bw := (bw_t (t_1 163 rfl) rfl)
theorem ml_X0_136 : Cond.methodLink RX0 136 yX0_nameEnd ∈ bw := (bw_t (t_1 164 rfl) rfl)
theorem im_X0_nameEnd : Cond.instanceMethod yX0_nameEnd ∈ bw := (bw_t (t_1 166 rfl) rfl)
theorem co_X0_nameEnd : Cond.code yX0_nameEnd cX0_nameEnd 3 (some .int) ∈ bw := (bw_t (t_1 167 rfl) rfl)
theorem ml_X0_142 : Cond.methodLink RX0 142 yX0_isDigit ∈ bw := (bw_t (t_1 168 rfl) rfl)
theorem sm_X0_isDigit : Cond.static yX0_isDigit ∈ bw := (bw_t (t_1 169 rfl) rfl)
theorem co_X0_isDigit : Cond.code yX0_isDigit cX0_isDigit 1 (some .boolean) ∈ bw := (bw_t (t_1 170 rfl) rfl)
theorem ml_X0_145 : Cond.methodLink RX0 145 yX0_numberEnd ∈ bw := (bw_t (t_1 171 rfl) rfl)
theorem im_X0_numberEnd : Cond.instanceMethod yX0_numberEnd ∈ bw := (bw_t (t_1 173 rfl) rfl)
theorem co_X0_numberEnd : Cond.code yX0_numberEnd cX0_numberEnd 5 (some .int) ∈ bw := (bw_t (t_1 174 rfl) rfl)
theorem ml_X0_171 : Cond.methodLink RX0 171 yX0_goesOnNumber ∈ bw := (bw_t (t_1 175 rfl) rfl)
theorem sm_X0_goesOnNumber : Cond.static yX0_goesOnNumber ∈ bw := (bw_t (t_1 176 rfl) rfl)
theorem co_X0_goesOnNumber : Cond.code yX0_goesOnNumber cX0_goesOnNumber 2 (some .boolean) ∈ bw := (bw_t (t_1 177 rfl) rfl)
theorem ml_X0_148 : Cond.methodLink RX0 148 yX0_cutSign ∈ bw := (bw_t (t_1 178 rfl) rfl)
theorem im_X0_cutSign : Cond.instanceMethod yX0_cutSign ∈ bw := (bw_t (t_1 180 rfl) rfl)
theorem co_X0_cutSign : Cond.code yX0_cutSign cX0_cutSign 7 (some .int) ∈ bw := (bw_t (t_1 181 rfl) rfl)
theorem ml_X0_163 : Cond.methodLink RX0 163 yX0_hasSign ∈ bw := (bw_t (t_1 183 rfl) rfl)
theorem sm_X0_hasSign : Cond.static yX0_hasSign ∈ bw := (bw_t (t_1 184 rfl) rfl)
theorem co_X0_hasSign : Cond.code yX0_hasSign cX0_hasSign 6 (some .boolean) ∈ bw := (bw_t (t_1 185 rfl) rfl)
theorem ml_X0_175 : Cond.methodLink RX0 175 yJ0_length ∈ bw := (bw_t (t_1 186 rfl) rfl)
theorem im_J0_length : Cond.instanceMethod yJ0_length ∈ bw := (bw_t (t_1 187 rfl) rfl)
theorem se_J0_length : Cond.selects RJ0 yJ0_length yJ0_length ∈ bw := (bw_t (t_1 188 rfl) rfl)
theorem co_J0_length : Cond.code yJ0_length cJ0_length 1 (some .int) ∈ bw := (bw_t (t_1 189 rfl) rfl)
theorem ml_J0_335 : Cond.methodLink RJ0 335 yJ0_coder ∈ bw := (bw_t (t_1 190 rfl) rfl)
theorem im_J0_coder : Cond.instanceMethod yJ0_coder ∈ bw := (bw_t (t_1 191 rfl) rfl)
theorem se_J0_coder : Cond.selects RJ0 yJ0_coder yJ0_coder ∈ bw := (bw_t (t_1 192 rfl) rfl)
theorem co_J0_coder : Cond.code yJ0_coder cJ0_coder 1 (some .byte) ∈ bw := (bw_t (t_1 193 rfl) rfl)
theorem fl_J0_38 : Cond.fieldLink RJ0 38 "java/lang/String" "COMPACT_STRINGS" "Z" ∈ bw := (bw_t (t_1 194 rfl) rfl)
theorem ml_X0_179 : Cond.methodLink RX0 179 yJ0_charAt ∈ bw := (bw_t (t_1 196 rfl) rfl)
theorem im_J0_charAt : Cond.instanceMethod yJ0_charAt ∈ bw := (bw_t (t_1 197 rfl) rfl)
theorem se_J0_charAt : Cond.selects RJ0 yJ0_charAt yJ0_charAt ∈ bw := (bw_t (t_1 198 rfl) rfl)
theorem co_J0_charAt : Cond.code yJ0_charAt cJ0_charAt 2 (some .char) ∈ bw := (bw_t (t_1 199 rfl) rfl)
theorem ml_J0_492 : Cond.methodLink RJ0 492 yJ0_isLatin1 ∈ bw := (bw_t (t_1 200 rfl) rfl)
theorem im_J0_isLatin1 : Cond.instanceMethod yJ0_isLatin1 ∈ bw := (bw_t (t_1 201 rfl) rfl)
theorem se_J0_isLatin1 : Cond.selects RJ0 yJ0_isLatin1 yJ0_isLatin1 ∈ bw := (bw_t (t_1 202 rfl) rfl)
theorem co_J0_isLatin1 : Cond.code yJ0_isLatin1 cJ0_isLatin1 1 (some .boolean) ∈ bw := (bw_t (t_1 203 rfl) rfl)
theorem ml_J0_495 : Cond.methodLink RJ0 495 yJ1_charAt ∈ bw := (bw_t (t_1 204 rfl) rfl)
theorem sm_J1_charAt : Cond.static yJ1_charAt ∈ bw := (bw_t (t_1 205 rfl) rfl)
theorem co_J1_charAt : Cond.code yJ1_charAt cJ1_charAt 2 (some .char) ∈ bw := (bw_t (t_1 206 rfl) rfl)
theorem ml_J1_9 : Cond.methodLink RJ1 9 yJ0_checkIndex ∈ bw := (bw_t (t_1 207 rfl) rfl)
theorem sm_J0_checkIndex : Cond.static yJ0_checkIndex ∈ bw := (bw_t (t_1 208 rfl) rfl)
theorem co_J0_checkIndex : Cond.code yJ0_checkIndex cJ0_checkIndex 2 none ∈ bw := (bw_t (t_1 209 rfl) rfl)
theorem fl_J0_1053 : Cond.fieldLink RJ0 1053 "jdk/internal/util/Preconditions" "SIOOBE_FORMATTER" "Ljava/util/function/BiFunction;" ∈ bw := (bw_t (t_1 210 rfl) rfl)
theorem ml_J0_1059 : Cond.methodLink RJ0 1059 yJ3_checkIndex ∈ bw := (bw_t (t_1 212 rfl) rfl)
theorem sm_J3_checkIndex : Cond.static yJ3_checkIndex ∈ bw := (bw_t (t_1 213 rfl) rfl)
theorem co_J3_checkIndex : Cond.code yJ3_checkIndex cJ3_checkIndex 3 (some .int) ∈ bw := (bw_t (t_1 214 rfl) rfl)
theorem ml_J0_498 : Cond.methodLink RJ0 498 yJ2_charAt ∈ bw := (bw_t (t_1 215 rfl) rfl)
theorem sm_J2_charAt : Cond.static yJ2_charAt ∈ bw := (bw_t (t_1 216 rfl) rfl)
theorem co_J2_charAt : Cond.code yJ2_charAt cJ2_charAt 2 (some .char) ∈ bw := (bw_t (t_1 217 rfl) rfl)
theorem ml_J2_67 : Cond.methodLink RJ2 67 yJ2_checkIndex ∈ bw := (bw_t (t_1 218 rfl) rfl)
theorem sm_J2_checkIndex : Cond.static yJ2_checkIndex ∈ bw := (bw_t (t_1 219 rfl) rfl)
theorem co_J2_checkIndex : Cond.code yJ2_checkIndex cJ2_checkIndex 2 none ∈ bw := (bw_t (t_1 220 rfl) rfl)
theorem ml_J2_48 : Cond.methodLink RJ2 48 yJ2_length ∈ bw := (bw_t (t_1 221 rfl) rfl)
theorem sm_J2_length : Cond.static yJ2_length ∈ bw := (bw_t (t_1 222 rfl) rfl)
theorem co_J2_length : Cond.code yJ2_length cJ2_length 1 (some .int) ∈ bw := (bw_t (t_1 223 rfl) rfl)
theorem ml_J2_414 : Cond.methodLink RJ2 414 yJ0_checkIndex ∈ bw := (bw_t (t_1 224 rfl) rfl)
theorem ml_J2_71 : Cond.methodLink RJ2 71 yJ2_getChar ∈ bw := (bw_t (t_1 225 rfl) rfl)
theorem sm_J2_getChar : Cond.static yJ2_getChar ∈ bw := (bw_t (t_1 226 rfl) rfl)
theorem co_J2_getChar : Cond.code yJ2_getChar cJ2_getChar 2 (some .char) ∈ bw := (bw_t (t_1 227 rfl) rfl)
theorem fl_J2_44 : Cond.fieldLink RJ2 44 "java/lang/StringUTF16" "$assertionsDisabled" "Z" ∈ bw := (bw_t (t_1 228 rfl) rfl)
theorem fl_J2_59 : Cond.fieldLink RJ2 59 "java/lang/StringUTF16" "HI_BYTE_SHIFT" "I" ∈ bw := (bw_t (t_1 230 rfl) rfl)
theorem fl_J2_63 : Cond.fieldLink RJ2 63 "java/lang/StringUTF16" "LO_BYTE_SHIFT" "I" ∈ bw := (bw_t (t_1 232 rfl) rfl)
theorem ml_X0_55 : Cond.methodLink RX0 55 yX0_closeLine ∈ bw := (bw_t (t_1 236 rfl) rfl)
theorem im_X0_closeLine : Cond.instanceMethod yX0_closeLine ∈ bw := (bw_t (t_1 238 rfl) rfl)
theorem co_X0_closeLine : Cond.code yX0_closeLine cX0_closeLine 1 (some .int) ∈ bw := (bw_t (t_1 239 rfl) rfl)
theorem ac_byte : Cond.arrayClass .byte ∈ bw := (bw_t (t_2 0 rfl) rfl)
theorem ml_L_38 : Cond.methodLink RL 38 yX0_told ∈ bw := (bw_t (t_2 1 rfl) rfl)
theorem im_X0_told : Cond.instanceMethod yX0_told ∈ bw := (bw_t (t_2 2 rfl) rfl)
theorem se_X0_told : Cond.selects RX0 yX0_told yX0_told ∈ bw := (bw_t (t_2 3 rfl) rfl)
theorem co_X0_told : Cond.code yX0_told cX0_told 2 (some .int) ∈ bw := (bw_t (t_2 4 rfl) rfl)
theorem ml_X0_58 : Cond.methodLink RX0 58 yX0_isDirective ∈ bw := (bw_t (t_2 5 rfl) rfl)
theorem im_X0_isDirective : Cond.instanceMethod yX0_isDirective ∈ bw := (bw_t (t_2 7 rfl) rfl)
theorem co_X0_isDirective : Cond.code yX0_isDirective cX0_isDirective 1 (some .boolean) ∈ bw := (bw_t (t_2 8 rfl) rfl)
theorem ml_X0_71 : Cond.methodLink RX0 71 yX0_isAtHand ∈ bw := (bw_t (t_2 9 rfl) rfl)
theorem im_X0_isAtHand : Cond.instanceMethod yX0_isAtHand ∈ bw := (bw_t (t_2 11 rfl) rfl)
theorem co_X0_isAtHand : Cond.code yX0_isAtHand cX0_isAtHand 2 (some .boolean) ∈ bw := (bw_t (t_2 12 rfl) rfl)
theorem ml_X0_76 : Cond.methodLink RX0 76 yX0_bytesOf ∈ bw := (bw_t (t_2 13 rfl) rfl)
theorem sm_X0_bytesOf : Cond.static yX0_bytesOf ∈ bw := (bw_t (t_2 14 rfl) rfl)
theorem co_X0_bytesOf : Cond.code yX0_bytesOf cX0_bytesOf 2 (some .int) ∈ bw := (bw_t (t_2 15 rfl) rfl)
theorem cn_X0_75 : Cond.constant RX0 75 (nI 65535) ∈ bw := (bw_t (t_2 16 rfl) rfl)
theorem ml_X0_80 : Cond.methodLink RX0 80 yX0_startOf ∈ bw := (bw_t (t_2 17 rfl) rfl)
theorem sm_X0_startOf : Cond.static yX0_startOf ∈ bw := (bw_t (t_2 18 rfl) rfl)
theorem co_X0_startOf : Cond.code yX0_startOf cX0_startOf 2 (some .int) ∈ bw := (bw_t (t_2 19 rfl) rfl)
theorem ml_L_43 : Cond.methodLink RL 43 yX0_token ∈ bw := (bw_t (t_2 20 rfl) rfl)
theorem im_X0_token : Cond.instanceMethod yX0_token ∈ bw := (bw_t (t_2 21 rfl) rfl)
theorem se_X0_token : Cond.selects RX0 yX0_token yX0_token ∈ bw := (bw_t (t_2 22 rfl) rfl)
theorem co_X0_token : Cond.code yX0_token cX0_token 5 (some .int) ∈ bw := (bw_t (t_2 23 rfl) rfl)
theorem ml_L_47 : Cond.methodLink RL 47 yX0_spelling ∈ bw := (bw_t (t_2 24 rfl) rfl)
theorem im_X0_spelling : Cond.instanceMethod yX0_spelling ∈ bw := (bw_t (t_2 25 rfl) rfl)
theorem se_X0_spelling : Cond.selects RX0 yX0_spelling yX0_spelling ∈ bw := (bw_t (t_2 26 rfl) rfl)
theorem co_X0_spelling : Cond.code yX0_spelling cX0_spelling 8 (some .long) ∈ bw := (bw_t (t_2 27 rfl) rfl)
theorem ck_X1 : Cond.classLink RL 10 RX1 ∈ bw := (bw_t (t_2 28 rfl) rfl)
theorem it_X1 : Cond.instantiable RX1 20 ∈ bw := (bw_t (t_2 29 rfl) rfl)
theorem ml_L_12 : Cond.methodLink RL 12 yX1_init ∈ bw := (bw_t (t_2 30 rfl) rfl)
theorem im_X1_init : Cond.instanceMethod yX1_init ∈ bw := (bw_t (t_2 31 rfl) rfl)
theorem co_X1_init : Cond.code yX1_init cX1_init 1 none ∈ bw := (bw_t (t_2 32 rfl) rfl)
theorem ml_X1_1 : Cond.methodLink RX1 1 objectInit ∈ bw := (bw_t (t_2 33 rfl) rfl)
theorem cn_X1_9 : Cond.constant RX1 9 (nI 32768) ∈ bw := (bw_t (t_2 34 rfl) rfl)
theorem ml_X1_40 : Cond.methodLink RX1 40 yX1_begin ∈ bw := (bw_t (t_2 35 rfl) rfl)
theorem im_X1_begin : Cond.instanceMethod yX1_begin ∈ bw := (bw_t (t_2 36 rfl) rfl)
theorem se_X1_begin : Cond.selects RX1 yX1_begin yX1_begin ∈ bw := (bw_t (t_2 37 rfl) rfl)
theorem co_X1_begin : Cond.code yX1_begin cX1_begin 1 none ∈ bw := (bw_t (t_2 38 rfl) rfl)
theorem fl_X1_43 : Cond.fieldLink RX1 43 "LineMillModel" "textSize" "I" ∈ bw := (bw_t (t_2 39 rfl) rfl)
theorem fl_X1_10 : Cond.fieldLink RX1 10 "LineMillModel" "text" "[B" ∈ bw := (bw_t (t_2 40 rfl) rfl)
theorem fl_X1_47 : Cond.fieldLink RX1 47 "LineMillModel" "place" "I" ∈ bw := (bw_t (t_2 41 rfl) rfl)
theorem fl_X1_50 : Cond.fieldLink RX1 50 "LineMillModel" "placeLine" "I" ∈ bw := (bw_t (t_2 42 rfl) rfl)
theorem fl_X1_53 : Cond.fieldLink RX1 53 "LineMillModel" "stopped" "Z" ∈ bw := (bw_t (t_2 43 rfl) rfl)
theorem fl_X1_57 : Cond.fieldLink RX1 57 "LineMillModel" "faultLine" "I" ∈ bw := (bw_t (t_2 44 rfl) rfl)
theorem fl_X1_60 : Cond.fieldLink RX1 60 "LineMillModel" "lines" "I" ∈ bw := (bw_t (t_2 45 rfl) rfl)
theorem fl_X1_63 : Cond.fieldLink RX1 63 "LineMillModel" "noEnds" "I" ∈ bw := (bw_t (t_2 46 rfl) rfl)
theorem fl_X1_107 : Cond.fieldLink RX1 107 "LineMillModel" "left" "I" ∈ bw := (bw_t (t_2 47 rfl) rfl)
theorem fl_X1_14 : Cond.fieldLink RX1 14 "LineMillModel" "store" "[B" ∈ bw := (bw_t (t_2 48 rfl) rfl)
theorem fl_X1_17 : Cond.fieldLink RX1 17 "LineMillModel" "rawOf" "[I" ∈ bw := (bw_t (t_2 49 rfl) rfl)
theorem fl_X1_21 : Cond.fieldLink RX1 21 "LineMillModel" "lineOf" "[I" ∈ bw := (bw_t (t_2 50 rfl) rfl)
theorem fl_X1_110 : Cond.fieldLink RX1 110 "LineMillModel" "endLine" "I" ∈ bw := (bw_t (t_2 51 rfl) rfl)
theorem fl_X1_66 : Cond.fieldLink RX1 66 "LineMillModel" "count" "I" ∈ bw := (bw_t (t_2 52 rfl) rfl)
theorem fl_X1_24 : Cond.fieldLink RX1 24 "LineMillModel" "tokenAt" "[I" ∈ bw := (bw_t (t_2 53 rfl) rfl)
theorem fl_X1_27 : Cond.fieldLink RX1 27 "LineMillModel" "tokenSize" "[I" ∈ bw := (bw_t (t_2 54 rfl) rfl)
theorem fl_X1_30 : Cond.fieldLink RX1 30 "LineMillModel" "tokenLine" "[I" ∈ bw := (bw_t (t_2 55 rfl) rfl)
theorem fl_X1_33 : Cond.fieldLink RX1 33 "LineMillModel" "tokenBefore" "[Z" ∈ bw := (bw_t (t_2 56 rfl) rfl)
theorem fl_X1_113 : Cond.fieldLink RX1 113 "LineMillModel" "spelled" "I" ∈ bw := (bw_t (t_2 57 rfl) rfl)
theorem fl_X1_37 : Cond.fieldLink RX1 37 "LineMillModel" "spellings" "[B" ∈ bw := (bw_t (t_2 58 rfl) rfl)
theorem ac_int : Cond.arrayClass .int ∈ bw := (bw_t (t_2 100 rfl) rfl)
theorem ac_boolean : Cond.arrayClass .boolean ∈ bw := (bw_t (t_2 101 rfl) rfl)
theorem ml_L_19 : Cond.methodLink RL 19 yX1_feed ∈ bw := (bw_t (t_2 102 rfl) rfl)
theorem im_X1_feed : Cond.instanceMethod yX1_feed ∈ bw := (bw_t (t_2 103 rfl) rfl)
theorem se_X1_feed : Cond.selects RX1 yX1_feed yX1_feed ∈ bw := (bw_t (t_2 104 rfl) rfl)
theorem co_X1_feed : Cond.code yX1_feed cX1_feed 5 (some .int) ∈ bw := (bw_t (t_2 105 rfl) rfl)
theorem ml_L_24 : Cond.methodLink RL 24 yX1_again ∈ bw := (bw_t (t_2 106 rfl) rfl)
theorem im_X1_again : Cond.instanceMethod yX1_again ∈ bw := (bw_t (t_2 107 rfl) rfl)
theorem se_X1_again : Cond.selects RX1 yX1_again yX1_again ∈ bw := (bw_t (t_2 108 rfl) rfl)
theorem co_X1_again : Cond.code yX1_again cX1_again 4 (some .int) ∈ bw := (bw_t (t_2 109 rfl) rfl)
theorem ml_L_29 : Cond.methodLink RL 29 yX1_clear ∈ bw := (bw_t (t_2 110 rfl) rfl)
theorem im_X1_clear : Cond.instanceMethod yX1_clear ∈ bw := (bw_t (t_2 111 rfl) rfl)
theorem se_X1_clear : Cond.selects RX1 yX1_clear yX1_clear ∈ bw := (bw_t (t_2 112 rfl) rfl)
theorem co_X1_clear : Cond.code yX1_clear cX1_clear 2 (some .int) ∈ bw := (bw_t (t_2 113 rfl) rfl)
theorem ml_L_33 : Cond.methodLink RL 33 yX1_begin ∈ bw := (bw_t (t_2 114 rfl) rfl)
theorem ml_L_37 : Cond.methodLink RL 37 yX1_next ∈ bw := (bw_t (t_2 115 rfl) rfl)
theorem im_X1_next : Cond.instanceMethod yX1_next ∈ bw := (bw_t (t_2 116 rfl) rfl)
theorem se_X1_next : Cond.selects RX1 yX1_next yX1_next ∈ bw := (bw_t (t_2 117 rfl) rfl)
theorem co_X1_next : Cond.code yX1_next cX1_next 10 (some .int) ∈ bw := (bw_t (t_2 118 rfl) rfl)
theorem ml_X1_116 : Cond.methodLink RX1 116 yX1_layDown ∈ bw := (bw_t (t_2 119 rfl) rfl)
theorem im_X1_layDown : Cond.instanceMethod yX1_layDown ∈ bw := (bw_t (t_2 121 rfl) rfl)
theorem co_X1_layDown : Cond.code yX1_layDown cX1_layDown 3 none ∈ bw := (bw_t (t_2 122 rfl) rfl)
theorem ml_X1_79 : Cond.methodLink RX1 79 yX1_byteAt ∈ bw := (bw_t (t_2 123 rfl) rfl)
theorem sm_X1_byteAt : Cond.static yX1_byteAt ∈ bw := (bw_t (t_2 124 rfl) rfl)
theorem co_X1_byteAt : Cond.code yX1_byteAt cX1_byteAt 3 (some .int) ∈ bw := (bw_t (t_2 125 rfl) rfl)
theorem ml_X1_119 : Cond.methodLink RX1 119 yX1_isBlank ∈ bw := (bw_t (t_2 126 rfl) rfl)
theorem sm_X1_isBlank : Cond.static yX1_isBlank ∈ bw := (bw_t (t_2 127 rfl) rfl)
theorem co_X1_isBlank : Cond.code yX1_isBlank cX1_isBlank 1 (some .boolean) ∈ bw := (bw_t (t_2 128 rfl) rfl)
theorem ml_X1_122 : Cond.methodLink RX1 122 yX1_commentEnd ∈ bw := (bw_t (t_2 129 rfl) rfl)
theorem im_X1_commentEnd : Cond.instanceMethod yX1_commentEnd ∈ bw := (bw_t (t_2 131 rfl) rfl)
theorem co_X1_commentEnd : Cond.code yX1_commentEnd cX1_commentEnd 3 (some .int) ∈ bw := (bw_t (t_2 132 rfl) rfl)
theorem ml_X1_126 : Cond.methodLink RX1 126 yX1_stop ∈ bw := (bw_t (t_2 133 rfl) rfl)
theorem im_X1_stop : Cond.instanceMethod yX1_stop ∈ bw := (bw_t (t_2 135 rfl) rfl)
theorem co_X1_stop : Cond.code yX1_stop cX1_stop 3 (some .int) ∈ bw := (bw_t (t_2 136 rfl) rfl)
theorem ml_X1_129 : Cond.methodLink RX1 129 yX1_tokenSizeAt ∈ bw := (bw_t (t_2 137 rfl) rfl)
theorem im_X1_tokenSizeAt : Cond.instanceMethod yX1_tokenSizeAt ∈ bw := (bw_t (t_2 139 rfl) rfl)
theorem co_X1_tokenSizeAt : Cond.code yX1_tokenSizeAt cX1_tokenSizeAt 9 (some .int) ∈ bw := (bw_t (t_2 140 rfl) rfl)
theorem ml_X1_91 : Cond.methodLink RX1 91 yX1_quotedEnd ∈ bw := (bw_t (t_2 141 rfl) rfl)
theorem im_X1_quotedEnd : Cond.instanceMethod yX1_quotedEnd ∈ bw := (bw_t (t_2 143 rfl) rfl)
theorem co_X1_quotedEnd : Cond.code yX1_quotedEnd cX1_quotedEnd 5 (some .int) ∈ bw := (bw_t (t_2 144 rfl) rfl)
theorem ml_X1_95 : Cond.methodLink RX1 95 yX1_isLetter ∈ bw := (bw_t (t_2 145 rfl) rfl)
theorem sm_X1_isLetter : Cond.static yX1_isLetter ∈ bw := (bw_t (t_2 146 rfl) rfl)
theorem co_X1_isLetter : Cond.code yX1_isLetter cX1_isLetter 1 (some .boolean) ∈ bw := (bw_t (t_2 147 rfl) rfl)
theorem ml_X1_99 : Cond.methodLink RX1 99 yX1_isDigit ∈ bw := (bw_t (t_2 148 rfl) rfl)
theorem sm_X1_isDigit : Cond.static yX1_isDigit ∈ bw := (bw_t (t_2 149 rfl) rfl)
theorem co_X1_isDigit : Cond.code yX1_isDigit cX1_isDigit 1 (some .boolean) ∈ bw := (bw_t (t_2 150 rfl) rfl)
theorem ml_X1_85 : Cond.methodLink RX1 85 yX1_isOneOf ∈ bw := (bw_t (t_2 152 rfl) rfl)
theorem sm_X1_isOneOf : Cond.static yX1_isOneOf ∈ bw := (bw_t (t_2 153 rfl) rfl)
theorem co_X1_isOneOf : Cond.code yX1_isOneOf cX1_isOneOf 4 (some .boolean) ∈ bw := (bw_t (t_2 154 rfl) rfl)
theorem ml_X1_69 : Cond.methodLink RX1 69 yJ0_length ∈ bw := (bw_t (t_2 155 rfl) rfl)
theorem ml_X1_75 : Cond.methodLink RX1 75 yJ0_charAt ∈ bw := (bw_t (t_2 156 rfl) rfl)
theorem ml_X1_104 : Cond.methodLink RX1 104 yX1_signSize ∈ bw := (bw_t (t_2 157 rfl) rfl)
theorem im_X1_signSize : Cond.instanceMethod yX1_signSize ∈ bw := (bw_t (t_2 159 rfl) rfl)
theorem co_X1_signSize : Cond.code yX1_signSize cX1_signSize 8 (some .int) ∈ bw := (bw_t (t_2 160 rfl) rfl)
theorem ml_X1_132 : Cond.methodLink RX1 132 yX1_keep ∈ bw := (bw_t (t_2 163 rfl) rfl)
theorem im_X1_keep : Cond.instanceMethod yX1_keep ∈ bw := (bw_t (t_2 165 rfl) rfl)
theorem co_X1_keep : Cond.code yX1_keep cX1_keep 5 none ∈ bw := (bw_t (t_2 166 rfl) rfl)
theorem ml_L_42 : Cond.methodLink RL 42 yX1_told ∈ bw := (bw_t (t_2 167 rfl) rfl)
theorem im_X1_told : Cond.instanceMethod yX1_told ∈ bw := (bw_t (t_2 168 rfl) rfl)
theorem se_X1_told : Cond.selects RX1 yX1_told yX1_told ∈ bw := (bw_t (t_2 169 rfl) rfl)
theorem co_X1_told : Cond.code yX1_told cX1_told 2 (some .int) ∈ bw := (bw_t (t_2 170 rfl) rfl)
theorem ml_L_46 : Cond.methodLink RL 46 yX1_token ∈ bw := (bw_t (t_2 171 rfl) rfl)
theorem im_X1_token : Cond.instanceMethod yX1_token ∈ bw := (bw_t (t_2 172 rfl) rfl)
theorem se_X1_token : Cond.selects RX1 yX1_token yX1_token ∈ bw := (bw_t (t_2 173 rfl) rfl)
theorem co_X1_token : Cond.code yX1_token cX1_token 3 (some .int) ∈ bw := (bw_t (t_2 174 rfl) rfl)
theorem ml_X1_141 : Cond.methodLink RX1 141 yX1_kindOf ∈ bw := (bw_t (t_2 175 rfl) rfl)
theorem im_X1_kindOf : Cond.instanceMethod yX1_kindOf ∈ bw := (bw_t (t_2 177 rfl) rfl)
theorem co_X1_kindOf : Cond.code yX1_kindOf cX1_kindOf 5 (some .int) ∈ bw := (bw_t (t_2 178 rfl) rfl)
theorem ml_X1_136 : Cond.methodLink RX1 136 yX1_byteOf ∈ bw := (bw_t (t_2 179 rfl) rfl)
theorem im_X1_byteOf : Cond.instanceMethod yX1_byteOf ∈ bw := (bw_t (t_2 181 rfl) rfl)
theorem co_X1_byteOf : Cond.code yX1_byteOf cX1_byteOf 3 (some .int) ∈ bw := (bw_t (t_2 182 rfl) rfl)
theorem ml_L_51 : Cond.methodLink RL 51 yX1_spelling ∈ bw := (bw_t (t_2 184 rfl) rfl)
theorem im_X1_spelling : Cond.instanceMethod yX1_spelling ∈ bw := (bw_t (t_2 185 rfl) rfl)
theorem se_X1_spelling : Cond.selects RX1 yX1_spelling yX1_spelling ∈ bw := (bw_t (t_2 186 rfl) rfl)
theorem co_X1_spelling : Cond.code yX1_spelling cX1_spelling 6 (some .long) ∈ bw := (bw_t (t_2 187 rfl) rfl)
theorem cn_L_13 : Cond.constantLong RL 13 (lN 4294967295) ∈ bw := (bw_t (t_2 188 rfl) rfl)
theorem fl_J0_9 : Cond.fieldLink RJ0 9 "java/lang/String" "value" "[B" ∈ bw := (bw_t (t_2 189 rfl) rfl)
theorem fl_J0_15 : Cond.fieldLink RJ0 15 "java/lang/String" "coder" "B" ∈ bw := (bw_t (t_2 190 rfl) rfl)
theorem se_X0_restart : Cond.selects RX0 yX0_restart yX0_restart ∈ bw := bw_p 0 rfl rfl
theorem se_X0_append : Cond.selects RX0 yX0_append yX0_append ∈ bw := bw_p 1 rfl rfl
theorem se_X0_byteAt : Cond.selects RX0 yX0_byteAt yX0_byteAt ∈ bw := bw_p 2 rfl rfl
theorem se_X0_leftFrom : Cond.selects RX0 yX0_leftFrom yX0_leftFrom ∈ bw := bw_p 3 rfl rfl
theorem se_X0_pass : Cond.selects RX0 yX0_pass yX0_pass ∈ bw := bw_p 4 rfl rfl
theorem se_X0_openLine : Cond.selects RX0 yX0_openLine yX0_openLine ∈ bw := bw_p 5 rfl rfl
theorem se_X0_cutPiece : Cond.selects RX0 yX0_cutPiece yX0_cutPiece ∈ bw := bw_p 6 rfl rfl
theorem se_X0_passBlank : Cond.selects RX0 yX0_passBlank yX0_passBlank ∈ bw := bw_p 7 rfl rfl
theorem se_X0_passComment : Cond.selects RX0 yX0_passComment yX0_passComment ∈ bw := bw_p 8 rfl rfl
theorem se_X0_commentEnd : Cond.selects RX0 yX0_commentEnd yX0_commentEnd ∈ bw := bw_p 9 rfl rfl
theorem se_X0_stopAt : Cond.selects RX0 yX0_stopAt yX0_stopAt ∈ bw := bw_p 10 rfl rfl
theorem se_X0_lineEnd : Cond.selects RX0 yX0_lineEnd yX0_lineEnd ∈ bw := bw_p 11 rfl rfl
theorem se_X0_cutQuote : Cond.selects RX0 yX0_cutQuote yX0_cutQuote ∈ bw := bw_p 12 rfl rfl
theorem se_X0_quoteEnd : Cond.selects RX0 yX0_quoteEnd yX0_quoteEnd ∈ bw := bw_p 13 rfl rfl
theorem se_X0_addToken : Cond.selects RX0 yX0_addToken yX0_addToken ∈ bw := bw_p 14 rfl rfl
theorem se_X0_cutWide : Cond.selects RX0 yX0_cutWide yX0_cutWide ∈ bw := bw_p 15 rfl rfl
theorem se_X0_nameEnd : Cond.selects RX0 yX0_nameEnd yX0_nameEnd ∈ bw := bw_p 16 rfl rfl
theorem se_X0_numberEnd : Cond.selects RX0 yX0_numberEnd yX0_numberEnd ∈ bw := bw_p 17 rfl rfl
theorem se_X0_cutSign : Cond.selects RX0 yX0_cutSign yX0_cutSign ∈ bw := bw_p 18 rfl rfl
theorem se_X0_closeLine : Cond.selects RX0 yX0_closeLine yX0_closeLine ∈ bw := bw_p 19 rfl rfl
theorem se_X0_isDirective : Cond.selects RX0 yX0_isDirective yX0_isDirective ∈ bw := bw_p 20 rfl rfl
theorem se_X0_isAtHand : Cond.selects RX0 yX0_isAtHand yX0_isAtHand ∈ bw := bw_p 21 rfl rfl
theorem se_X1_layDown : Cond.selects RX1 yX1_layDown yX1_layDown ∈ bw := bw_p 22 rfl rfl
theorem se_X1_commentEnd : Cond.selects RX1 yX1_commentEnd yX1_commentEnd ∈ bw := bw_p 23 rfl rfl
theorem se_X1_stop : Cond.selects RX1 yX1_stop yX1_stop ∈ bw := bw_p 24 rfl rfl
theorem se_X1_tokenSizeAt : Cond.selects RX1 yX1_tokenSizeAt yX1_tokenSizeAt ∈ bw := bw_p 25 rfl rfl
theorem se_X1_quotedEnd : Cond.selects RX1 yX1_quotedEnd yX1_quotedEnd ∈ bw := bw_p 26 rfl rfl
theorem se_X1_signSize : Cond.selects RX1 yX1_signSize yX1_signSize ∈ bw := bw_p 27 rfl rfl
theorem se_X1_keep : Cond.selects RX1 yX1_keep yX1_keep ∈ bw := bw_p 28 rfl rfl
theorem se_X1_kindOf : Cond.selects RX1 yX1_kindOf yX1_kindOf ∈ bw := bw_p 29 rfl rfl
theorem se_X1_byteOf : Cond.selects RX1 yX1_byteOf yX1_byteOf ∈ bw := bw_p 30 rfl rfl
theorem inX0 : ∀ w ∈ u_ws RX0 TX0 16, w ∈ bw := by
  intro w h
  refine bw_t ?_ ?_
  · revert w; decide +kernel
  · revert w; decide +kernel
theorem inX1 : ∀ w ∈ u_ws RX1 TX1 20, w ∈ bw := by
  intro w h
  refine bw_t ?_ ?_
  · revert w; decide +kernel
  · revert w; decide +kernel
theorem pd_X0_init : yX0_init.cls = RX0 ∧ yX0_init.cls ≠ "java/lang/invoke/MethodHandle" ∧ yX0_init.cls ≠ "java/lang/invoke/VarHandle" ∧ (parseMethodDescriptor yX0_init.desc).map (fun d => d.parameters.length) = some 0 := by decide +kernel
abbrev wX0_init : List Cond := .code yX0_init cX0_init 1 none :: bw
theorem pd_X0_restart : yX0_restart.cls = RX0 ∧ yX0_restart.cls ≠ "java/lang/invoke/MethodHandle" ∧ yX0_restart.cls ≠ "java/lang/invoke/VarHandle" ∧ (parseMethodDescriptor yX0_restart.desc).map (fun d => d.parameters.length) = some 0 := by decide +kernel
abbrev wX0_restart : List Cond := .code yX0_restart cX0_restart 1 none :: bw
theorem pd_X0_feed : yX0_feed.cls = RX0 ∧ yX0_feed.cls ≠ "java/lang/invoke/MethodHandle" ∧ yX0_feed.cls ≠ "java/lang/invoke/VarHandle" ∧ (parseMethodDescriptor yX0_feed.desc).map (fun d => d.parameters.length) = some 2 := by decide +kernel
abbrev wX0_feed : List Cond := .code yX0_feed cX0_feed 5 (some .int) :: bw
theorem pd_X0_append : yX0_append.cls = RX0 ∧ yX0_append.cls ≠ "java/lang/invoke/MethodHandle" ∧ yX0_append.cls ≠ "java/lang/invoke/VarHandle" ∧ (parseMethodDescriptor yX0_append.desc).map (fun d => d.parameters.length) = some 1 := by decide +kernel
abbrev wX0_append : List Cond := .code yX0_append cX0_append 4 none :: bw
theorem pd_X0_again : yX0_again.cls = RX0 ∧ yX0_again.cls ≠ "java/lang/invoke/MethodHandle" ∧ yX0_again.cls ≠ "java/lang/invoke/VarHandle" ∧ (parseMethodDescriptor yX0_again.desc).map (fun d => d.parameters.length) = some 2 := by decide +kernel
abbrev wX0_again : List Cond := .code yX0_again cX0_again 4 (some .int) :: bw
theorem pd_X0_byteAt : yX0_byteAt.cls = RX0 ∧ yX0_byteAt.cls ≠ "java/lang/invoke/MethodHandle" ∧ yX0_byteAt.cls ≠ "java/lang/invoke/VarHandle" ∧ (parseMethodDescriptor yX0_byteAt.desc).map (fun d => d.parameters.length) = some 1 := by decide +kernel
abbrev wX0_byteAt : List Cond := .code yX0_byteAt cX0_byteAt 3 (some .int) :: bw
theorem pd_X0_clear : yX0_clear.cls = RX0 ∧ yX0_clear.cls ≠ "java/lang/invoke/MethodHandle" ∧ yX0_clear.cls ≠ "java/lang/invoke/VarHandle" ∧ (parseMethodDescriptor yX0_clear.desc).map (fun d => d.parameters.length) = some 0 := by decide +kernel
abbrev wX0_clear : List Cond := .code yX0_clear cX0_clear 2 (some .int) :: bw
theorem pd_X0_begin : yX0_begin.cls = RX0 ∧ yX0_begin.cls ≠ "java/lang/invoke/MethodHandle" ∧ yX0_begin.cls ≠ "java/lang/invoke/VarHandle" ∧ (parseMethodDescriptor yX0_begin.desc).map (fun d => d.parameters.length) = some 0 := by decide +kernel
abbrev wX0_begin : List Cond := .code yX0_begin cX0_begin 1 none :: bw
theorem pd_X0_next : yX0_next.cls = RX0 ∧ yX0_next.cls ≠ "java/lang/invoke/MethodHandle" ∧ yX0_next.cls ≠ "java/lang/invoke/VarHandle" ∧ (parseMethodDescriptor yX0_next.desc).map (fun d => d.parameters.length) = some 0 := by decide +kernel
abbrev wX0_next : List Cond := .code yX0_next cX0_next 4 (some .int) :: bw
theorem pd_X0_leftFrom : yX0_leftFrom.cls = RX0 ∧ yX0_leftFrom.cls ≠ "java/lang/invoke/MethodHandle" ∧ yX0_leftFrom.cls ≠ "java/lang/invoke/VarHandle" ∧ (parseMethodDescriptor yX0_leftFrom.desc).map (fun d => d.parameters.length) = some 1 := by decide +kernel
abbrev wX0_leftFrom : List Cond := .code yX0_leftFrom cX0_leftFrom 3 (some .int) :: bw
theorem pd_X0_pass : yX0_pass.cls = RX0 ∧ yX0_pass.cls ≠ "java/lang/invoke/MethodHandle" ∧ yX0_pass.cls ≠ "java/lang/invoke/VarHandle" ∧ (parseMethodDescriptor yX0_pass.desc).map (fun d => d.parameters.length) = some 1 := by decide +kernel
abbrev wX0_pass : List Cond := .code yX0_pass cX0_pass 4 (some .int) :: bw
theorem pd_X0_openLine : yX0_openLine.cls = RX0 ∧ yX0_openLine.cls ≠ "java/lang/invoke/MethodHandle" ∧ yX0_openLine.cls ≠ "java/lang/invoke/VarHandle" ∧ (parseMethodDescriptor yX0_openLine.desc).map (fun d => d.parameters.length) = some 0 := by decide +kernel
abbrev wX0_openLine : List Cond := .code yX0_openLine cX0_openLine 1 none :: bw
theorem pd_X0_cutPiece : yX0_cutPiece.cls = RX0 ∧ yX0_cutPiece.cls ≠ "java/lang/invoke/MethodHandle" ∧ yX0_cutPiece.cls ≠ "java/lang/invoke/VarHandle" ∧ (parseMethodDescriptor yX0_cutPiece.desc).map (fun d => d.parameters.length) = some 0 := by decide +kernel
abbrev wX0_cutPiece : List Cond := .code yX0_cutPiece cX0_cutPiece 4 (some .int) :: bw
theorem pd_X0_passBlank : yX0_passBlank.cls = RX0 ∧ yX0_passBlank.cls ≠ "java/lang/invoke/MethodHandle" ∧ yX0_passBlank.cls ≠ "java/lang/invoke/VarHandle" ∧ (parseMethodDescriptor yX0_passBlank.desc).map (fun d => d.parameters.length) = some 1 := by decide +kernel
abbrev wX0_passBlank : List Cond := .code yX0_passBlank cX0_passBlank 2 (some .int) :: bw
theorem pd_X0_isBlank : yX0_isBlank.cls = RX0 ∧ yX0_isBlank.cls ≠ "java/lang/invoke/MethodHandle" ∧ yX0_isBlank.cls ≠ "java/lang/invoke/VarHandle" ∧ (parseMethodDescriptor yX0_isBlank.desc).map (fun d => d.parameters.length) = some 1 := by decide +kernel
abbrev wX0_isBlank : List Cond := .code yX0_isBlank cX0_isBlank 1 (some .boolean) :: bw
theorem pd_X0_passComment : yX0_passComment.cls = RX0 ∧ yX0_passComment.cls ≠ "java/lang/invoke/MethodHandle" ∧ yX0_passComment.cls ≠ "java/lang/invoke/VarHandle" ∧ (parseMethodDescriptor yX0_passComment.desc).map (fun d => d.parameters.length) = some 1 := by decide +kernel
abbrev wX0_passComment : List Cond := .code yX0_passComment cX0_passComment 3 (some .int) :: bw
theorem pd_X0_commentEnd : yX0_commentEnd.cls = RX0 ∧ yX0_commentEnd.cls ≠ "java/lang/invoke/MethodHandle" ∧ yX0_commentEnd.cls ≠ "java/lang/invoke/VarHandle" ∧ (parseMethodDescriptor yX0_commentEnd.desc).map (fun d => d.parameters.length) = some 1 := by decide +kernel
abbrev wX0_commentEnd : List Cond := .code yX0_commentEnd cX0_commentEnd 5 (some .int) :: bw
theorem pd_X0_stopAt : yX0_stopAt.cls = RX0 ∧ yX0_stopAt.cls ≠ "java/lang/invoke/MethodHandle" ∧ yX0_stopAt.cls ≠ "java/lang/invoke/VarHandle" ∧ (parseMethodDescriptor yX0_stopAt.desc).map (fun d => d.parameters.length) = some 2 := by decide +kernel
abbrev wX0_stopAt : List Cond := .code yX0_stopAt cX0_stopAt 3 (some .int) :: bw
theorem pd_X0_lineEnd : yX0_lineEnd.cls = RX0 ∧ yX0_lineEnd.cls ≠ "java/lang/invoke/MethodHandle" ∧ yX0_lineEnd.cls ≠ "java/lang/invoke/VarHandle" ∧ (parseMethodDescriptor yX0_lineEnd.desc).map (fun d => d.parameters.length) = some 1 := by decide +kernel
abbrev wX0_lineEnd : List Cond := .code yX0_lineEnd cX0_lineEnd 3 (some .int) :: bw
theorem pd_X0_isQuote : yX0_isQuote.cls = RX0 ∧ yX0_isQuote.cls ≠ "java/lang/invoke/MethodHandle" ∧ yX0_isQuote.cls ≠ "java/lang/invoke/VarHandle" ∧ (parseMethodDescriptor yX0_isQuote.desc).map (fun d => d.parameters.length) = some 1 := by decide +kernel
abbrev wX0_isQuote : List Cond := .code yX0_isQuote cX0_isQuote 1 (some .boolean) :: bw
theorem pd_X0_cutQuote : yX0_cutQuote.cls = RX0 ∧ yX0_cutQuote.cls ≠ "java/lang/invoke/MethodHandle" ∧ yX0_cutQuote.cls ≠ "java/lang/invoke/VarHandle" ∧ (parseMethodDescriptor yX0_cutQuote.desc).map (fun d => d.parameters.length) = some 1 := by decide +kernel
abbrev wX0_cutQuote : List Cond := .code yX0_cutQuote cX0_cutQuote 3 (some .int) :: bw
theorem pd_X0_quoteEnd : yX0_quoteEnd.cls = RX0 ∧ yX0_quoteEnd.cls ≠ "java/lang/invoke/MethodHandle" ∧ yX0_quoteEnd.cls ≠ "java/lang/invoke/VarHandle" ∧ (parseMethodDescriptor yX0_quoteEnd.desc).map (fun d => d.parameters.length) = some 2 := by decide +kernel
abbrev wX0_quoteEnd : List Cond := .code yX0_quoteEnd cX0_quoteEnd 6 (some .int) :: bw
theorem pd_X0_kindOfQuote : yX0_kindOfQuote.cls = RX0 ∧ yX0_kindOfQuote.cls ≠ "java/lang/invoke/MethodHandle" ∧ yX0_kindOfQuote.cls ≠ "java/lang/invoke/VarHandle" ∧ (parseMethodDescriptor yX0_kindOfQuote.desc).map (fun d => d.parameters.length) = some 1 := by decide +kernel
abbrev wX0_kindOfQuote : List Cond := .code yX0_kindOfQuote cX0_kindOfQuote 1 (some .int) :: bw
theorem pd_X0_addToken : yX0_addToken.cls = RX0 ∧ yX0_addToken.cls ≠ "java/lang/invoke/MethodHandle" ∧ yX0_addToken.cls ≠ "java/lang/invoke/VarHandle" ∧ (parseMethodDescriptor yX0_addToken.desc).map (fun d => d.parameters.length) = some 2 := by decide +kernel
abbrev wX0_addToken : List Cond := .code yX0_addToken cX0_addToken 6 (some .int) :: bw
theorem pd_X0_cutWide : yX0_cutWide.cls = RX0 ∧ yX0_cutWide.cls ≠ "java/lang/invoke/MethodHandle" ∧ yX0_cutWide.cls ≠ "java/lang/invoke/VarHandle" ∧ (parseMethodDescriptor yX0_cutWide.desc).map (fun d => d.parameters.length) = some 2 := by decide +kernel
abbrev wX0_cutWide : List Cond := .code yX0_cutWide cX0_cutWide 4 (some .int) :: bw
theorem pd_X0_isLetter : yX0_isLetter.cls = RX0 ∧ yX0_isLetter.cls ≠ "java/lang/invoke/MethodHandle" ∧ yX0_isLetter.cls ≠ "java/lang/invoke/VarHandle" ∧ (parseMethodDescriptor yX0_isLetter.desc).map (fun d => d.parameters.length) = some 1 := by decide +kernel
abbrev wX0_isLetter : List Cond := .code yX0_isLetter cX0_isLetter 1 (some .boolean) :: bw
theorem pd_X0_nameEnd : yX0_nameEnd.cls = RX0 ∧ yX0_nameEnd.cls ≠ "java/lang/invoke/MethodHandle" ∧ yX0_nameEnd.cls ≠ "java/lang/invoke/VarHandle" ∧ (parseMethodDescriptor yX0_nameEnd.desc).map (fun d => d.parameters.length) = some 1 := by decide +kernel
abbrev wX0_nameEnd : List Cond := .code yX0_nameEnd cX0_nameEnd 3 (some .int) :: bw
theorem pd_X0_isDigit : yX0_isDigit.cls = RX0 ∧ yX0_isDigit.cls ≠ "java/lang/invoke/MethodHandle" ∧ yX0_isDigit.cls ≠ "java/lang/invoke/VarHandle" ∧ (parseMethodDescriptor yX0_isDigit.desc).map (fun d => d.parameters.length) = some 1 := by decide +kernel
abbrev wX0_isDigit : List Cond := .code yX0_isDigit cX0_isDigit 1 (some .boolean) :: bw
theorem pd_X0_numberEnd : yX0_numberEnd.cls = RX0 ∧ yX0_numberEnd.cls ≠ "java/lang/invoke/MethodHandle" ∧ yX0_numberEnd.cls ≠ "java/lang/invoke/VarHandle" ∧ (parseMethodDescriptor yX0_numberEnd.desc).map (fun d => d.parameters.length) = some 2 := by decide +kernel
abbrev wX0_numberEnd : List Cond := .code yX0_numberEnd cX0_numberEnd 5 (some .int) :: bw
theorem pd_X0_goesOnNumber : yX0_goesOnNumber.cls = RX0 ∧ yX0_goesOnNumber.cls ≠ "java/lang/invoke/MethodHandle" ∧ yX0_goesOnNumber.cls ≠ "java/lang/invoke/VarHandle" ∧ (parseMethodDescriptor yX0_goesOnNumber.desc).map (fun d => d.parameters.length) = some 2 := by decide +kernel
abbrev wX0_goesOnNumber : List Cond := .code yX0_goesOnNumber cX0_goesOnNumber 2 (some .boolean) :: bw
theorem pd_X0_cutSign : yX0_cutSign.cls = RX0 ∧ yX0_cutSign.cls ≠ "java/lang/invoke/MethodHandle" ∧ yX0_cutSign.cls ≠ "java/lang/invoke/VarHandle" ∧ (parseMethodDescriptor yX0_cutSign.desc).map (fun d => d.parameters.length) = some 3 := by decide +kernel
abbrev wX0_cutSign : List Cond := .code yX0_cutSign cX0_cutSign 7 (some .int) :: bw
theorem pd_X0_hasSign : yX0_hasSign.cls = RX0 ∧ yX0_hasSign.cls ≠ "java/lang/invoke/MethodHandle" ∧ yX0_hasSign.cls ≠ "java/lang/invoke/VarHandle" ∧ (parseMethodDescriptor yX0_hasSign.desc).map (fun d => d.parameters.length) = some 5 := by decide +kernel
abbrev wX0_hasSign : List Cond := .code yX0_hasSign cX0_hasSign 6 (some .boolean) :: bw
theorem pd_J0_length : yJ0_length.cls = RJ0 ∧ yJ0_length.cls ≠ "java/lang/invoke/MethodHandle" ∧ yJ0_length.cls ≠ "java/lang/invoke/VarHandle" ∧ (parseMethodDescriptor yJ0_length.desc).map (fun d => d.parameters.length) = some 0 := by decide +kernel
abbrev wJ0_length : List Cond := .code yJ0_length cJ0_length 1 (some .int) :: bw
theorem pd_J0_coder : yJ0_coder.cls = RJ0 ∧ yJ0_coder.cls ≠ "java/lang/invoke/MethodHandle" ∧ yJ0_coder.cls ≠ "java/lang/invoke/VarHandle" ∧ (parseMethodDescriptor yJ0_coder.desc).map (fun d => d.parameters.length) = some 0 := by decide +kernel
abbrev wJ0_coder : List Cond := .code yJ0_coder cJ0_coder 1 (some .byte) :: bw
theorem pd_J0_charAt : yJ0_charAt.cls = RJ0 ∧ yJ0_charAt.cls ≠ "java/lang/invoke/MethodHandle" ∧ yJ0_charAt.cls ≠ "java/lang/invoke/VarHandle" ∧ (parseMethodDescriptor yJ0_charAt.desc).map (fun d => d.parameters.length) = some 1 := by decide +kernel
abbrev wJ0_charAt : List Cond := .code yJ0_charAt cJ0_charAt 2 (some .char) :: bw
theorem pd_J0_isLatin1 : yJ0_isLatin1.cls = RJ0 ∧ yJ0_isLatin1.cls ≠ "java/lang/invoke/MethodHandle" ∧ yJ0_isLatin1.cls ≠ "java/lang/invoke/VarHandle" ∧ (parseMethodDescriptor yJ0_isLatin1.desc).map (fun d => d.parameters.length) = some 0 := by decide +kernel
abbrev wJ0_isLatin1 : List Cond := .code yJ0_isLatin1 cJ0_isLatin1 1 (some .boolean) :: bw
theorem pd_J1_charAt : yJ1_charAt.cls = RJ1 ∧ yJ1_charAt.cls ≠ "java/lang/invoke/MethodHandle" ∧ yJ1_charAt.cls ≠ "java/lang/invoke/VarHandle" ∧ (parseMethodDescriptor yJ1_charAt.desc).map (fun d => d.parameters.length) = some 2 := by decide +kernel
abbrev wJ1_charAt : List Cond := .code yJ1_charAt cJ1_charAt 2 (some .char) :: bw
theorem pd_J0_checkIndex : yJ0_checkIndex.cls = RJ0 ∧ yJ0_checkIndex.cls ≠ "java/lang/invoke/MethodHandle" ∧ yJ0_checkIndex.cls ≠ "java/lang/invoke/VarHandle" ∧ (parseMethodDescriptor yJ0_checkIndex.desc).map (fun d => d.parameters.length) = some 2 := by decide +kernel
abbrev wJ0_checkIndex : List Cond := .code yJ0_checkIndex cJ0_checkIndex 2 none :: bw
theorem pd_J3_checkIndex : yJ3_checkIndex.cls = RJ3 ∧ yJ3_checkIndex.cls ≠ "java/lang/invoke/MethodHandle" ∧ yJ3_checkIndex.cls ≠ "java/lang/invoke/VarHandle" ∧ (parseMethodDescriptor yJ3_checkIndex.desc).map (fun d => d.parameters.length) = some 3 := by decide +kernel
abbrev wJ3_checkIndex : List Cond := .code yJ3_checkIndex cJ3_checkIndex 3 (some .int) :: bw
theorem pd_J2_charAt : yJ2_charAt.cls = RJ2 ∧ yJ2_charAt.cls ≠ "java/lang/invoke/MethodHandle" ∧ yJ2_charAt.cls ≠ "java/lang/invoke/VarHandle" ∧ (parseMethodDescriptor yJ2_charAt.desc).map (fun d => d.parameters.length) = some 2 := by decide +kernel
abbrev wJ2_charAt : List Cond := .code yJ2_charAt cJ2_charAt 2 (some .char) :: bw
theorem pd_J2_checkIndex : yJ2_checkIndex.cls = RJ2 ∧ yJ2_checkIndex.cls ≠ "java/lang/invoke/MethodHandle" ∧ yJ2_checkIndex.cls ≠ "java/lang/invoke/VarHandle" ∧ (parseMethodDescriptor yJ2_checkIndex.desc).map (fun d => d.parameters.length) = some 2 := by decide +kernel
abbrev wJ2_checkIndex : List Cond := .code yJ2_checkIndex cJ2_checkIndex 2 none :: bw
theorem pd_J2_length : yJ2_length.cls = RJ2 ∧ yJ2_length.cls ≠ "java/lang/invoke/MethodHandle" ∧ yJ2_length.cls ≠ "java/lang/invoke/VarHandle" ∧ (parseMethodDescriptor yJ2_length.desc).map (fun d => d.parameters.length) = some 1 := by decide +kernel
abbrev wJ2_length : List Cond := .code yJ2_length cJ2_length 1 (some .int) :: bw
theorem pd_J2_getChar : yJ2_getChar.cls = RJ2 ∧ yJ2_getChar.cls ≠ "java/lang/invoke/MethodHandle" ∧ yJ2_getChar.cls ≠ "java/lang/invoke/VarHandle" ∧ (parseMethodDescriptor yJ2_getChar.desc).map (fun d => d.parameters.length) = some 2 := by decide +kernel
abbrev wJ2_getChar : List Cond := .code yJ2_getChar cJ2_getChar 2 (some .char) :: bw
theorem pd_X0_closeLine : yX0_closeLine.cls = RX0 ∧ yX0_closeLine.cls ≠ "java/lang/invoke/MethodHandle" ∧ yX0_closeLine.cls ≠ "java/lang/invoke/VarHandle" ∧ (parseMethodDescriptor yX0_closeLine.desc).map (fun d => d.parameters.length) = some 0 := by decide +kernel
abbrev wX0_closeLine : List Cond := .code yX0_closeLine cX0_closeLine 1 (some .int) :: bw
theorem pd_X0_told : yX0_told.cls = RX0 ∧ yX0_told.cls ≠ "java/lang/invoke/MethodHandle" ∧ yX0_told.cls ≠ "java/lang/invoke/VarHandle" ∧ (parseMethodDescriptor yX0_told.desc).map (fun d => d.parameters.length) = some 1 := by decide +kernel
abbrev wX0_told : List Cond := .code yX0_told cX0_told 2 (some .int) :: bw
theorem pd_X0_isDirective : yX0_isDirective.cls = RX0 ∧ yX0_isDirective.cls ≠ "java/lang/invoke/MethodHandle" ∧ yX0_isDirective.cls ≠ "java/lang/invoke/VarHandle" ∧ (parseMethodDescriptor yX0_isDirective.desc).map (fun d => d.parameters.length) = some 0 := by decide +kernel
abbrev wX0_isDirective : List Cond := .code yX0_isDirective cX0_isDirective 1 (some .boolean) :: bw
theorem pd_X0_isAtHand : yX0_isAtHand.cls = RX0 ∧ yX0_isAtHand.cls ≠ "java/lang/invoke/MethodHandle" ∧ yX0_isAtHand.cls ≠ "java/lang/invoke/VarHandle" ∧ (parseMethodDescriptor yX0_isAtHand.desc).map (fun d => d.parameters.length) = some 1 := by decide +kernel
abbrev wX0_isAtHand : List Cond := .code yX0_isAtHand cX0_isAtHand 2 (some .boolean) :: bw
theorem pd_X0_bytesOf : yX0_bytesOf.cls = RX0 ∧ yX0_bytesOf.cls ≠ "java/lang/invoke/MethodHandle" ∧ yX0_bytesOf.cls ≠ "java/lang/invoke/VarHandle" ∧ (parseMethodDescriptor yX0_bytesOf.desc).map (fun d => d.parameters.length) = some 1 := by decide +kernel
abbrev wX0_bytesOf : List Cond := .code yX0_bytesOf cX0_bytesOf 2 (some .int) :: bw
theorem pd_X0_startOf : yX0_startOf.cls = RX0 ∧ yX0_startOf.cls ≠ "java/lang/invoke/MethodHandle" ∧ yX0_startOf.cls ≠ "java/lang/invoke/VarHandle" ∧ (parseMethodDescriptor yX0_startOf.desc).map (fun d => d.parameters.length) = some 1 := by decide +kernel
abbrev wX0_startOf : List Cond := .code yX0_startOf cX0_startOf 2 (some .int) :: bw
theorem pd_X0_token : yX0_token.cls = RX0 ∧ yX0_token.cls ≠ "java/lang/invoke/MethodHandle" ∧ yX0_token.cls ≠ "java/lang/invoke/VarHandle" ∧ (parseMethodDescriptor yX0_token.desc).map (fun d => d.parameters.length) = some 2 := by decide +kernel
abbrev wX0_token : List Cond := .code yX0_token cX0_token 5 (some .int) :: bw
theorem pd_X0_spelling : yX0_spelling.cls = RX0 ∧ yX0_spelling.cls ≠ "java/lang/invoke/MethodHandle" ∧ yX0_spelling.cls ≠ "java/lang/invoke/VarHandle" ∧ (parseMethodDescriptor yX0_spelling.desc).map (fun d => d.parameters.length) = some 2 := by decide +kernel
abbrev wX0_spelling : List Cond := .code yX0_spelling cX0_spelling 8 (some .long) :: bw
theorem pd_X1_init : yX1_init.cls = RX1 ∧ yX1_init.cls ≠ "java/lang/invoke/MethodHandle" ∧ yX1_init.cls ≠ "java/lang/invoke/VarHandle" ∧ (parseMethodDescriptor yX1_init.desc).map (fun d => d.parameters.length) = some 0 := by decide +kernel
abbrev wX1_init : List Cond := .code yX1_init cX1_init 1 none :: bw
theorem pd_X1_begin : yX1_begin.cls = RX1 ∧ yX1_begin.cls ≠ "java/lang/invoke/MethodHandle" ∧ yX1_begin.cls ≠ "java/lang/invoke/VarHandle" ∧ (parseMethodDescriptor yX1_begin.desc).map (fun d => d.parameters.length) = some 0 := by decide +kernel
abbrev wX1_begin : List Cond := .code yX1_begin cX1_begin 1 none :: bw
theorem pd_X1_feed : yX1_feed.cls = RX1 ∧ yX1_feed.cls ≠ "java/lang/invoke/MethodHandle" ∧ yX1_feed.cls ≠ "java/lang/invoke/VarHandle" ∧ (parseMethodDescriptor yX1_feed.desc).map (fun d => d.parameters.length) = some 2 := by decide +kernel
abbrev wX1_feed : List Cond := .code yX1_feed cX1_feed 5 (some .int) :: bw
theorem pd_X1_again : yX1_again.cls = RX1 ∧ yX1_again.cls ≠ "java/lang/invoke/MethodHandle" ∧ yX1_again.cls ≠ "java/lang/invoke/VarHandle" ∧ (parseMethodDescriptor yX1_again.desc).map (fun d => d.parameters.length) = some 2 := by decide +kernel
abbrev wX1_again : List Cond := .code yX1_again cX1_again 4 (some .int) :: bw
theorem pd_X1_clear : yX1_clear.cls = RX1 ∧ yX1_clear.cls ≠ "java/lang/invoke/MethodHandle" ∧ yX1_clear.cls ≠ "java/lang/invoke/VarHandle" ∧ (parseMethodDescriptor yX1_clear.desc).map (fun d => d.parameters.length) = some 0 := by decide +kernel
abbrev wX1_clear : List Cond := .code yX1_clear cX1_clear 2 (some .int) :: bw
theorem pd_X1_next : yX1_next.cls = RX1 ∧ yX1_next.cls ≠ "java/lang/invoke/MethodHandle" ∧ yX1_next.cls ≠ "java/lang/invoke/VarHandle" ∧ (parseMethodDescriptor yX1_next.desc).map (fun d => d.parameters.length) = some 0 := by decide +kernel
abbrev wX1_next : List Cond := .code yX1_next cX1_next 10 (some .int) :: bw
theorem pd_X1_layDown : yX1_layDown.cls = RX1 ∧ yX1_layDown.cls ≠ "java/lang/invoke/MethodHandle" ∧ yX1_layDown.cls ≠ "java/lang/invoke/VarHandle" ∧ (parseMethodDescriptor yX1_layDown.desc).map (fun d => d.parameters.length) = some 0 := by decide +kernel
abbrev wX1_layDown : List Cond := .code yX1_layDown cX1_layDown 3 none :: bw
theorem pd_X1_byteAt : yX1_byteAt.cls = RX1 ∧ yX1_byteAt.cls ≠ "java/lang/invoke/MethodHandle" ∧ yX1_byteAt.cls ≠ "java/lang/invoke/VarHandle" ∧ (parseMethodDescriptor yX1_byteAt.desc).map (fun d => d.parameters.length) = some 3 := by decide +kernel
abbrev wX1_byteAt : List Cond := .code yX1_byteAt cX1_byteAt 3 (some .int) :: bw
theorem pd_X1_isBlank : yX1_isBlank.cls = RX1 ∧ yX1_isBlank.cls ≠ "java/lang/invoke/MethodHandle" ∧ yX1_isBlank.cls ≠ "java/lang/invoke/VarHandle" ∧ (parseMethodDescriptor yX1_isBlank.desc).map (fun d => d.parameters.length) = some 1 := by decide +kernel
abbrev wX1_isBlank : List Cond := .code yX1_isBlank cX1_isBlank 1 (some .boolean) :: bw
theorem pd_X1_commentEnd : yX1_commentEnd.cls = RX1 ∧ yX1_commentEnd.cls ≠ "java/lang/invoke/MethodHandle" ∧ yX1_commentEnd.cls ≠ "java/lang/invoke/VarHandle" ∧ (parseMethodDescriptor yX1_commentEnd.desc).map (fun d => d.parameters.length) = some 1 := by decide +kernel
abbrev wX1_commentEnd : List Cond := .code yX1_commentEnd cX1_commentEnd 3 (some .int) :: bw
theorem pd_X1_stop : yX1_stop.cls = RX1 ∧ yX1_stop.cls ≠ "java/lang/invoke/MethodHandle" ∧ yX1_stop.cls ≠ "java/lang/invoke/VarHandle" ∧ (parseMethodDescriptor yX1_stop.desc).map (fun d => d.parameters.length) = some 2 := by decide +kernel
abbrev wX1_stop : List Cond := .code yX1_stop cX1_stop 3 (some .int) :: bw
theorem pd_X1_tokenSizeAt : yX1_tokenSizeAt.cls = RX1 ∧ yX1_tokenSizeAt.cls ≠ "java/lang/invoke/MethodHandle" ∧ yX1_tokenSizeAt.cls ≠ "java/lang/invoke/VarHandle" ∧ (parseMethodDescriptor yX1_tokenSizeAt.desc).map (fun d => d.parameters.length) = some 2 := by decide +kernel
abbrev wX1_tokenSizeAt : List Cond := .code yX1_tokenSizeAt cX1_tokenSizeAt 9 (some .int) :: bw
theorem pd_X1_quotedEnd : yX1_quotedEnd.cls = RX1 ∧ yX1_quotedEnd.cls ≠ "java/lang/invoke/MethodHandle" ∧ yX1_quotedEnd.cls ≠ "java/lang/invoke/VarHandle" ∧ (parseMethodDescriptor yX1_quotedEnd.desc).map (fun d => d.parameters.length) = some 2 := by decide +kernel
abbrev wX1_quotedEnd : List Cond := .code yX1_quotedEnd cX1_quotedEnd 5 (some .int) :: bw
theorem pd_X1_isLetter : yX1_isLetter.cls = RX1 ∧ yX1_isLetter.cls ≠ "java/lang/invoke/MethodHandle" ∧ yX1_isLetter.cls ≠ "java/lang/invoke/VarHandle" ∧ (parseMethodDescriptor yX1_isLetter.desc).map (fun d => d.parameters.length) = some 1 := by decide +kernel
abbrev wX1_isLetter : List Cond := .code yX1_isLetter cX1_isLetter 1 (some .boolean) :: bw
theorem pd_X1_isDigit : yX1_isDigit.cls = RX1 ∧ yX1_isDigit.cls ≠ "java/lang/invoke/MethodHandle" ∧ yX1_isDigit.cls ≠ "java/lang/invoke/VarHandle" ∧ (parseMethodDescriptor yX1_isDigit.desc).map (fun d => d.parameters.length) = some 1 := by decide +kernel
abbrev wX1_isDigit : List Cond := .code yX1_isDigit cX1_isDigit 1 (some .boolean) :: bw
theorem pd_X1_isOneOf : yX1_isOneOf.cls = RX1 ∧ yX1_isOneOf.cls ≠ "java/lang/invoke/MethodHandle" ∧ yX1_isOneOf.cls ≠ "java/lang/invoke/VarHandle" ∧ (parseMethodDescriptor yX1_isOneOf.desc).map (fun d => d.parameters.length) = some 2 := by decide +kernel
abbrev wX1_isOneOf : List Cond := .code yX1_isOneOf cX1_isOneOf 4 (some .boolean) :: bw
theorem pd_X1_signSize : yX1_signSize.cls = RX1 ∧ yX1_signSize.cls ≠ "java/lang/invoke/MethodHandle" ∧ yX1_signSize.cls ≠ "java/lang/invoke/VarHandle" ∧ (parseMethodDescriptor yX1_signSize.desc).map (fun d => d.parameters.length) = some 2 := by decide +kernel
abbrev wX1_signSize : List Cond := .code yX1_signSize cX1_signSize 8 (some .int) :: bw
theorem pd_X1_keep : yX1_keep.cls = RX1 ∧ yX1_keep.cls ≠ "java/lang/invoke/MethodHandle" ∧ yX1_keep.cls ≠ "java/lang/invoke/VarHandle" ∧ (parseMethodDescriptor yX1_keep.desc).map (fun d => d.parameters.length) = some 3 := by decide +kernel
abbrev wX1_keep : List Cond := .code yX1_keep cX1_keep 5 none :: bw
theorem pd_X1_told : yX1_told.cls = RX1 ∧ yX1_told.cls ≠ "java/lang/invoke/MethodHandle" ∧ yX1_told.cls ≠ "java/lang/invoke/VarHandle" ∧ (parseMethodDescriptor yX1_told.desc).map (fun d => d.parameters.length) = some 1 := by decide +kernel
abbrev wX1_told : List Cond := .code yX1_told cX1_told 2 (some .int) :: bw
theorem pd_X1_token : yX1_token.cls = RX1 ∧ yX1_token.cls ≠ "java/lang/invoke/MethodHandle" ∧ yX1_token.cls ≠ "java/lang/invoke/VarHandle" ∧ (parseMethodDescriptor yX1_token.desc).map (fun d => d.parameters.length) = some 2 := by decide +kernel
abbrev wX1_token : List Cond := .code yX1_token cX1_token 3 (some .int) :: bw
theorem pd_X1_kindOf : yX1_kindOf.cls = RX1 ∧ yX1_kindOf.cls ≠ "java/lang/invoke/MethodHandle" ∧ yX1_kindOf.cls ≠ "java/lang/invoke/VarHandle" ∧ (parseMethodDescriptor yX1_kindOf.desc).map (fun d => d.parameters.length) = some 1 := by decide +kernel
abbrev wX1_kindOf : List Cond := .code yX1_kindOf cX1_kindOf 5 (some .int) :: bw
theorem pd_X1_byteOf : yX1_byteOf.cls = RX1 ∧ yX1_byteOf.cls ≠ "java/lang/invoke/MethodHandle" ∧ yX1_byteOf.cls ≠ "java/lang/invoke/VarHandle" ∧ (parseMethodDescriptor yX1_byteOf.desc).map (fun d => d.parameters.length) = some 2 := by decide +kernel
abbrev wX1_byteOf : List Cond := .code yX1_byteOf cX1_byteOf 3 (some .int) :: bw
theorem pd_X1_spelling : yX1_spelling.cls = RX1 ∧ yX1_spelling.cls ≠ "java/lang/invoke/MethodHandle" ∧ yX1_spelling.cls ≠ "java/lang/invoke/VarHandle" ∧ (parseMethodDescriptor yX1_spelling.desc).map (fun d => d.parameters.length) = some 2 := by decide +kernel
abbrev wX1_spelling : List Cond := .code yX1_spelling cX1_spelling 6 (some .long) :: bw
end
section
/-! decode rows -/
theorem dX0_init_0 : decode cX0_init 0 = .ok (.aload_n 0, 1) := by decide +kernel
theorem dX0_init_1 : decode cX0_init 1 = .ok (.invokespecial 1, 3) := by decide +kernel
theorem dX0_init_4 : decode cX0_init 4 = .ok (.aload_n 0, 1) := by decide +kernel
theorem dX0_init_5 : decode cX0_init 5 = .ok (.sipush 4096, 3) := by decide +kernel
theorem dX0_init_8 : decode cX0_init 8 = .ok (.newarray .long, 2) := by decide +kernel
theorem dX0_init_10 : decode cX0_init 10 = .ok (.putfield 9, 3) := by decide +kernel
theorem dX0_init_13 : decode cX0_init 13 = .ok (.aload_n 0, 1) := by decide +kernel
theorem dX0_init_14 : decode cX0_init 14 = .ok (.sipush 8000, 3) := by decide +kernel
theorem dX0_init_17 : decode cX0_init 17 = .ok (.newarray .long, 2) := by decide +kernel
theorem dX0_init_19 : decode cX0_init 19 = .ok (.putfield 13, 3) := by decide +kernel
theorem dX0_init_22 : decode cX0_init 22 = .ok (.aload_n 0, 1) := by decide +kernel
theorem dX0_init_23 : decode cX0_init 23 = .ok (.invokevirtual 16, 3) := by decide +kernel
theorem dX0_init_26 : decode cX0_init 26 = .ok (.return_, 1) := by decide +kernel
theorem dX0_feed_0 : decode cX0_feed 0 = .ok (.iload_n 3, 1) := by decide +kernel
theorem dX0_feed_1 : decode cX0_feed 1 = .ok (.iconst 1, 1) := by decide +kernel
theorem dX0_feed_2 : decode cX0_feed 2 = .ok (.if_icmp .lt 9, 3) := by decide +kernel
theorem dX0_feed_5 : decode cX0_feed 5 = .ok (.iload_n 3, 1) := by decide +kernel
theorem dX0_feed_6 : decode cX0_feed 6 = .ok (.bipush 8, 2) := by decide +kernel
theorem dX0_feed_8 : decode cX0_feed 8 = .ok (.if_icmp .le 5, 3) := by decide +kernel
theorem dX0_feed_11 : decode cX0_feed 11 = .ok (.iconst (-1), 1) := by decide +kernel
theorem dX0_feed_12 : decode cX0_feed 12 = .ok (.ireturn, 1) := by decide +kernel
theorem dX0_feed_13 : decode cX0_feed 13 = .ok (.aload_n 0, 1) := by decide +kernel
theorem dX0_feed_14 : decode cX0_feed 14 = .ok (.getfield 19, 3) := by decide +kernel
theorem dX0_feed_17 : decode cX0_feed 17 = .ok (.iload_n 3, 1) := by decide +kernel
theorem dX0_feed_18 : decode cX0_feed 18 = .ok (.iadd, 1) := by decide +kernel
theorem dX0_feed_19 : decode cX0_feed 19 = .ok (.ldc 23, 2) := by decide +kernel
theorem dX0_feed_21 : decode cX0_feed 21 = .ok (.if_icmp .le 6, 3) := by decide +kernel
theorem dX0_feed_24 : decode cX0_feed 24 = .ok (.bipush (-3), 2) := by decide +kernel
theorem dX0_feed_26 : decode cX0_feed 26 = .ok (.ireturn, 1) := by decide +kernel
theorem dX0_feed_27 : decode cX0_feed 27 = .ok (.iconst 0, 1) := by decide +kernel
theorem dX0_feed_28 : decode cX0_feed 28 = .ok (.istore 4, 2) := by decide +kernel
theorem dX0_feed_30 : decode cX0_feed 30 = .ok (.iload 4, 2) := by decide +kernel
theorem dX0_feed_32 : decode cX0_feed 32 = .ok (.iload_n 3, 1) := by decide +kernel
theorem dX0_feed_33 : decode cX0_feed 33 = .ok (.if_icmp .ge 25, 3) := by decide +kernel
theorem dX0_feed_36 : decode cX0_feed 36 = .ok (.aload_n 0, 1) := by decide +kernel
theorem dX0_feed_37 : decode cX0_feed 37 = .ok (.lload_n 1, 1) := by decide +kernel
theorem dX0_feed_38 : decode cX0_feed 38 = .ok (.bipush 8, 2) := by decide +kernel
theorem dX0_feed_40 : decode cX0_feed 40 = .ok (.iload 4, 2) := by decide +kernel
theorem dX0_feed_42 : decode cX0_feed 42 = .ok (.imul, 1) := by decide +kernel
theorem dX0_feed_43 : decode cX0_feed 43 = .ok (.lushr, 1) := by decide +kernel
theorem dX0_feed_44 : decode cX0_feed 44 = .ok (.l2i, 1) := by decide +kernel
theorem dX0_feed_45 : decode cX0_feed 45 = .ok (.sipush 255, 3) := by decide +kernel
theorem dX0_feed_48 : decode cX0_feed 48 = .ok (.iand, 1) := by decide +kernel
theorem dX0_feed_49 : decode cX0_feed 49 = .ok (.invokevirtual 24, 3) := by decide +kernel
theorem dX0_feed_52 : decode cX0_feed 52 = .ok (.iinc 4 1, 3) := by decide +kernel
theorem dX0_feed_55 : decode cX0_feed 55 = .ok (.goto (-25), 3) := by decide +kernel
theorem dX0_feed_58 : decode cX0_feed 58 = .ok (.aload_n 0, 1) := by decide +kernel
theorem dX0_feed_59 : decode cX0_feed 59 = .ok (.getfield 19, 3) := by decide +kernel
theorem dX0_feed_62 : decode cX0_feed 62 = .ok (.ireturn, 1) := by decide +kernel
theorem dX0_again_0 : decode cX0_again 0 = .ok (.iload_n 1, 1) := by decide +kernel
theorem dX0_again_1 : decode cX0_again 1 = .ok (.ifCond .lt 26, 3) := by decide +kernel
theorem dX0_again_4 : decode cX0_again 4 = .ok (.iload_n 2, 1) := by decide +kernel
theorem dX0_again_5 : decode cX0_again 5 = .ok (.iconst 1, 1) := by decide +kernel
theorem dX0_again_6 : decode cX0_again 6 = .ok (.if_icmp .lt 21, 3) := by decide +kernel
theorem dX0_again_9 : decode cX0_again 9 = .ok (.iload_n 2, 1) := by decide +kernel
theorem dX0_again_10 : decode cX0_again 10 = .ok (.aload_n 0, 1) := by decide +kernel
theorem dX0_again_11 : decode cX0_again 11 = .ok (.getfield 19, 3) := by decide +kernel
theorem dX0_again_14 : decode cX0_again 14 = .ok (.if_icmp .gt 13, 3) := by decide +kernel
theorem dX0_again_17 : decode cX0_again 17 = .ok (.iload_n 1, 1) := by decide +kernel
theorem dX0_again_18 : decode cX0_again 18 = .ok (.aload_n 0, 1) := by decide +kernel
theorem dX0_again_19 : decode cX0_again 19 = .ok (.getfield 19, 3) := by decide +kernel
theorem dX0_again_22 : decode cX0_again 22 = .ok (.iload_n 2, 1) := by decide +kernel
theorem dX0_again_23 : decode cX0_again 23 = .ok (.isub, 1) := by decide +kernel
theorem dX0_again_24 : decode cX0_again 24 = .ok (.if_icmp .le 5, 3) := by decide +kernel
theorem dX0_again_27 : decode cX0_again 27 = .ok (.iconst (-1), 1) := by decide +kernel
theorem dX0_again_28 : decode cX0_again 28 = .ok (.ireturn, 1) := by decide +kernel
theorem dX0_again_29 : decode cX0_again 29 = .ok (.aload_n 0, 1) := by decide +kernel
theorem dX0_again_30 : decode cX0_again 30 = .ok (.getfield 19, 3) := by decide +kernel
theorem dX0_again_33 : decode cX0_again 33 = .ok (.iload_n 2, 1) := by decide +kernel
theorem dX0_again_34 : decode cX0_again 34 = .ok (.iadd, 1) := by decide +kernel
theorem dX0_again_35 : decode cX0_again 35 = .ok (.ldc 23, 2) := by decide +kernel
theorem dX0_again_37 : decode cX0_again 37 = .ok (.if_icmp .le 6, 3) := by decide +kernel
theorem dX0_again_40 : decode cX0_again 40 = .ok (.bipush (-3), 2) := by decide +kernel
theorem dX0_again_42 : decode cX0_again 42 = .ok (.ireturn, 1) := by decide +kernel
theorem dX0_again_43 : decode cX0_again 43 = .ok (.iconst 0, 1) := by decide +kernel
theorem dX0_again_44 : decode cX0_again 44 = .ok (.istore_n 3, 1) := by decide +kernel
theorem dX0_again_45 : decode cX0_again 45 = .ok (.iload_n 3, 1) := by decide +kernel
theorem dX0_again_46 : decode cX0_again 46 = .ok (.iload_n 2, 1) := by decide +kernel
theorem dX0_again_47 : decode cX0_again 47 = .ok (.if_icmp .ge 20, 3) := by decide +kernel
theorem dX0_again_50 : decode cX0_again 50 = .ok (.aload_n 0, 1) := by decide +kernel
theorem dX0_again_51 : decode cX0_again 51 = .ok (.aload_n 0, 1) := by decide +kernel
theorem dX0_again_52 : decode cX0_again 52 = .ok (.iload_n 1, 1) := by decide +kernel
theorem dX0_again_53 : decode cX0_again 53 = .ok (.iload_n 3, 1) := by decide +kernel
theorem dX0_again_54 : decode cX0_again 54 = .ok (.iadd, 1) := by decide +kernel
theorem dX0_again_55 : decode cX0_again 55 = .ok (.invokevirtual 28, 3) := by decide +kernel
theorem dX0_again_58 : decode cX0_again 58 = .ok (.invokevirtual 24, 3) := by decide +kernel
theorem dX0_again_61 : decode cX0_again 61 = .ok (.iinc 3 1, 3) := by decide +kernel
theorem dX0_again_64 : decode cX0_again 64 = .ok (.goto (-19), 3) := by decide +kernel
theorem dX0_again_67 : decode cX0_again 67 = .ok (.aload_n 0, 1) := by decide +kernel
theorem dX0_again_68 : decode cX0_again 68 = .ok (.getfield 19, 3) := by decide +kernel
theorem dX0_again_71 : decode cX0_again 71 = .ok (.ireturn, 1) := by decide +kernel
theorem dX0_clear_0 : decode cX0_clear 0 = .ok (.aload_n 0, 1) := by decide +kernel
theorem dX0_clear_1 : decode cX0_clear 1 = .ok (.getfield 19, 3) := by decide +kernel
theorem dX0_clear_4 : decode cX0_clear 4 = .ok (.istore_n 1, 1) := by decide +kernel
theorem dX0_clear_5 : decode cX0_clear 5 = .ok (.aload_n 0, 1) := by decide +kernel
theorem dX0_clear_6 : decode cX0_clear 6 = .ok (.iconst 0, 1) := by decide +kernel
theorem dX0_clear_7 : decode cX0_clear 7 = .ok (.putfield 19, 3) := by decide +kernel
theorem dX0_clear_10 : decode cX0_clear 10 = .ok (.aload_n 0, 1) := by decide +kernel
theorem dX0_clear_11 : decode cX0_clear 11 = .ok (.invokevirtual 16, 3) := by decide +kernel
theorem dX0_clear_14 : decode cX0_clear 14 = .ok (.iload_n 1, 1) := by decide +kernel
theorem dX0_clear_15 : decode cX0_clear 15 = .ok (.ireturn, 1) := by decide +kernel
theorem dX0_begin_0 : decode cX0_begin 0 = .ok (.aload_n 0, 1) := by decide +kernel
theorem dX0_begin_1 : decode cX0_begin 1 = .ok (.invokevirtual 16, 3) := by decide +kernel
theorem dX0_begin_4 : decode cX0_begin 4 = .ok (.return_, 1) := by decide +kernel
theorem dX0_next_0 : decode cX0_next 0 = .ok (.aload_n 0, 1) := by decide +kernel
theorem dX0_next_1 : decode cX0_next 1 = .ok (.iconst 0, 1) := by decide +kernel
theorem dX0_next_2 : decode cX0_next 2 = .ok (.putfield 32, 3) := by decide +kernel
theorem dX0_next_5 : decode cX0_next 5 = .ok (.aload_n 0, 1) := by decide +kernel
theorem dX0_next_6 : decode cX0_next 6 = .ok (.getfield 35, 3) := by decide +kernel
theorem dX0_next_9 : decode cX0_next 9 = .ok (.ifCond .eq 6, 3) := by decide +kernel
theorem dX0_next_12 : decode cX0_next 12 = .ok (.bipush (-2), 2) := by decide +kernel
theorem dX0_next_14 : decode cX0_next 14 = .ok (.ireturn, 1) := by decide +kernel
theorem dX0_next_15 : decode cX0_next 15 = .ok (.aload_n 0, 1) := by decide +kernel
theorem dX0_next_16 : decode cX0_next 16 = .ok (.aload_n 0, 1) := by decide +kernel
theorem dX0_next_17 : decode cX0_next 17 = .ok (.aload_n 0, 1) := by decide +kernel
theorem dX0_next_18 : decode cX0_next 18 = .ok (.getfield 39, 3) := by decide +kernel
theorem dX0_next_21 : decode cX0_next 21 = .ok (.invokevirtual 42, 3) := by decide +kernel
theorem dX0_next_24 : decode cX0_next 24 = .ok (.invokevirtual 45, 3) := by decide +kernel
theorem dX0_next_27 : decode cX0_next 27 = .ok (.pop, 1) := by decide +kernel
theorem dX0_next_28 : decode cX0_next 28 = .ok (.aload_n 0, 1) := by decide +kernel
theorem dX0_next_29 : decode cX0_next 29 = .ok (.getfield 39, 3) := by decide +kernel
theorem dX0_next_32 : decode cX0_next 32 = .ok (.aload_n 0, 1) := by decide +kernel
theorem dX0_next_33 : decode cX0_next 33 = .ok (.getfield 19, 3) := by decide +kernel
theorem dX0_next_36 : decode cX0_next 36 = .ok (.if_icmp .lt 6, 3) := by decide +kernel
theorem dX0_next_39 : decode cX0_next 39 = .ok (.bipush (-2), 2) := by decide +kernel
theorem dX0_next_41 : decode cX0_next 41 = .ok (.ireturn, 1) := by decide +kernel
theorem dX0_next_42 : decode cX0_next 42 = .ok (.aload_n 0, 1) := by decide +kernel
theorem dX0_next_43 : decode cX0_next 43 = .ok (.invokevirtual 48, 3) := by decide +kernel
theorem dX0_next_46 : decode cX0_next 46 = .ok (.iconst 0, 1) := by decide +kernel
theorem dX0_next_47 : decode cX0_next 47 = .ok (.istore_n 1, 1) := by decide +kernel
theorem dX0_next_48 : decode cX0_next 48 = .ok (.iconst 0, 1) := by decide +kernel
theorem dX0_next_49 : decode cX0_next 49 = .ok (.istore_n 2, 1) := by decide +kernel
theorem dX0_next_50 : decode cX0_next 50 = .ok (.iconst 0, 1) := by decide +kernel
theorem dX0_next_51 : decode cX0_next 51 = .ok (.istore_n 3, 1) := by decide +kernel
theorem dX0_next_52 : decode cX0_next 52 = .ok (.iload_n 3, 1) := by decide +kernel
theorem dX0_next_53 : decode cX0_next 53 = .ok (.ldc 23, 2) := by decide +kernel
theorem dX0_next_55 : decode cX0_next 55 = .ok (.if_icmp .ge 52, 3) := by decide +kernel
theorem dX0_next_58 : decode cX0_next 58 = .ok (.aload_n 0, 1) := by decide +kernel
theorem dX0_next_59 : decode cX0_next 59 = .ok (.getfield 39, 3) := by decide +kernel
theorem dX0_next_62 : decode cX0_next 62 = .ok (.aload_n 0, 1) := by decide +kernel
theorem dX0_next_63 : decode cX0_next 63 = .ok (.getfield 19, 3) := by decide +kernel
theorem dX0_next_66 : decode cX0_next 66 = .ok (.if_icmp .ge 41, 3) := by decide +kernel
theorem dX0_next_69 : decode cX0_next 69 = .ok (.iload_n 2, 1) := by decide +kernel
theorem dX0_next_70 : decode cX0_next 70 = .ok (.ifCond .ne 37, 3) := by decide +kernel
theorem dX0_next_73 : decode cX0_next 73 = .ok (.iload_n 1, 1) := by decide +kernel
theorem dX0_next_74 : decode cX0_next 74 = .ok (.ifCond .ne 33, 3) := by decide +kernel
theorem dX0_next_77 : decode cX0_next 77 = .ok (.aload_n 0, 1) := by decide +kernel
theorem dX0_next_78 : decode cX0_next 78 = .ok (.aload_n 0, 1) := by decide +kernel
theorem dX0_next_79 : decode cX0_next 79 = .ok (.getfield 39, 3) := by decide +kernel
theorem dX0_next_82 : decode cX0_next 82 = .ok (.invokevirtual 28, 3) := by decide +kernel
theorem dX0_next_85 : decode cX0_next 85 = .ok (.bipush 10, 2) := by decide +kernel
theorem dX0_next_87 : decode cX0_next 87 = .ok (.if_icmp .ne 7, 3) := by decide +kernel
theorem dX0_next_90 : decode cX0_next 90 = .ok (.iconst 1, 1) := by decide +kernel
theorem dX0_next_91 : decode cX0_next 91 = .ok (.goto 4, 3) := by decide +kernel
theorem dX0_next_94 : decode cX0_next 94 = .ok (.iconst 0, 1) := by decide +kernel
theorem dX0_next_95 : decode cX0_next 95 = .ok (.istore_n 2, 1) := by decide +kernel
theorem dX0_next_96 : decode cX0_next 96 = .ok (.aload_n 0, 1) := by decide +kernel
theorem dX0_next_97 : decode cX0_next 97 = .ok (.invokevirtual 51, 3) := by decide +kernel
theorem dX0_next_100 : decode cX0_next 100 = .ok (.istore_n 1, 1) := by decide +kernel
theorem dX0_next_101 : decode cX0_next 101 = .ok (.iinc 3 1, 3) := by decide +kernel
theorem dX0_next_104 : decode cX0_next 104 = .ok (.goto (-52), 3) := by decide +kernel
theorem dX0_next_107 : decode cX0_next 107 = .ok (.iload_n 1, 1) := by decide +kernel
theorem dX0_next_108 : decode cX0_next 108 = .ok (.ifCond .ne 8, 3) := by decide +kernel
theorem dX0_next_111 : decode cX0_next 111 = .ok (.aload_n 0, 1) := by decide +kernel
theorem dX0_next_112 : decode cX0_next 112 = .ok (.invokevirtual 55, 3) := by decide +kernel
theorem dX0_next_115 : decode cX0_next 115 = .ok (.istore_n 1, 1) := by decide +kernel
theorem dX0_next_116 : decode cX0_next 116 = .ok (.iload_n 1, 1) := by decide +kernel
theorem dX0_next_117 : decode cX0_next 117 = .ok (.ifCond .ne 10, 3) := by decide +kernel
theorem dX0_next_120 : decode cX0_next 120 = .ok (.aload_n 0, 1) := by decide +kernel
theorem dX0_next_121 : decode cX0_next 121 = .ok (.getfield 32, 3) := by decide +kernel
theorem dX0_next_124 : decode cX0_next 124 = .ok (.goto 7, 3) := by decide +kernel
theorem dX0_next_127 : decode cX0_next 127 = .ok (.bipush (-10), 2) := by decide +kernel
theorem dX0_next_129 : decode cX0_next 129 = .ok (.iload_n 1, 1) := by decide +kernel
theorem dX0_next_130 : decode cX0_next 130 = .ok (.isub, 1) := by decide +kernel
theorem dX0_next_131 : decode cX0_next 131 = .ok (.ireturn, 1) := by decide +kernel
theorem dX0_told_0 : decode cX0_told 0 = .ok (.iload_n 1, 1) := by decide +kernel
theorem dX0_told_1 : decode cX0_told 1 = .ok (.tableswitch 70 0 3 #[31, 44, 49, 54], 31) := by decide +kernel
theorem dX0_told_32 : decode cX0_told 32 = .ok (.aload_n 0, 1) := by decide +kernel
theorem dX0_told_33 : decode cX0_told 33 = .ok (.invokevirtual 58, 3) := by decide +kernel
theorem dX0_told_36 : decode cX0_told 36 = .ok (.ifCond .eq 7, 3) := by decide +kernel
theorem dX0_told_39 : decode cX0_told 39 = .ok (.iconst 1, 1) := by decide +kernel
theorem dX0_told_40 : decode cX0_told 40 = .ok (.goto 4, 3) := by decide +kernel
theorem dX0_told_43 : decode cX0_told 43 = .ok (.iconst 0, 1) := by decide +kernel
theorem dX0_told_44 : decode cX0_told 44 = .ok (.ireturn, 1) := by decide +kernel
theorem dX0_told_45 : decode cX0_told 45 = .ok (.aload_n 0, 1) := by decide +kernel
theorem dX0_told_46 : decode cX0_told 46 = .ok (.getfield 62, 3) := by decide +kernel
theorem dX0_told_49 : decode cX0_told 49 = .ok (.ireturn, 1) := by decide +kernel
theorem dX0_told_50 : decode cX0_told 50 = .ok (.aload_n 0, 1) := by decide +kernel
theorem dX0_told_51 : decode cX0_told 51 = .ok (.getfield 65, 3) := by decide +kernel
theorem dX0_told_54 : decode cX0_told 54 = .ok (.ireturn, 1) := by decide +kernel
theorem dX0_told_55 : decode cX0_told 55 = .ok (.aload_n 0, 1) := by decide +kernel
theorem dX0_told_56 : decode cX0_told 56 = .ok (.getfield 35, 3) := by decide +kernel
theorem dX0_told_59 : decode cX0_told 59 = .ok (.ifCond .eq 7, 3) := by decide +kernel
theorem dX0_told_62 : decode cX0_told 62 = .ok (.iconst 0, 1) := by decide +kernel
theorem dX0_told_63 : decode cX0_told 63 = .ok (.goto 7, 3) := by decide +kernel
theorem dX0_told_66 : decode cX0_told 66 = .ok (.aload_n 0, 1) := by decide +kernel
theorem dX0_told_67 : decode cX0_told 67 = .ok (.getfield 68, 3) := by decide +kernel
theorem dX0_told_70 : decode cX0_told 70 = .ok (.ireturn, 1) := by decide +kernel
theorem dX0_told_71 : decode cX0_told 71 = .ok (.iconst (-1), 1) := by decide +kernel
theorem dX0_told_72 : decode cX0_told 72 = .ok (.ireturn, 1) := by decide +kernel
theorem dX0_token_0 : decode cX0_token 0 = .ok (.aload_n 0, 1) := by decide +kernel
theorem dX0_token_1 : decode cX0_token 1 = .ok (.iload_n 1, 1) := by decide +kernel
theorem dX0_token_2 : decode cX0_token 2 = .ok (.invokevirtual 71, 3) := by decide +kernel
theorem dX0_token_5 : decode cX0_token 5 = .ok (.ifCond .ne 5, 3) := by decide +kernel
theorem dX0_token_8 : decode cX0_token 8 = .ok (.iconst (-1), 1) := by decide +kernel
theorem dX0_token_9 : decode cX0_token 9 = .ok (.ireturn, 1) := by decide +kernel
theorem dX0_token_10 : decode cX0_token 10 = .ok (.aload_n 0, 1) := by decide +kernel
theorem dX0_token_11 : decode cX0_token 11 = .ok (.getfield 13, 3) := by decide +kernel
theorem dX0_token_14 : decode cX0_token 14 = .ok (.iload_n 1, 1) := by decide +kernel
theorem dX0_token_15 : decode cX0_token 15 = .ok (.laload, 1) := by decide +kernel
theorem dX0_token_16 : decode cX0_token 16 = .ok (.lstore_n 3, 1) := by decide +kernel
theorem dX0_token_17 : decode cX0_token 17 = .ok (.iload_n 2, 1) := by decide +kernel
theorem dX0_token_18 : decode cX0_token 18 = .ok (.tableswitch 75 0 4 #[34, 43, 52, 57, 65], 34) := by decide +kernel
theorem dX0_token_52 : decode cX0_token 52 = .ok (.lload_n 3, 1) := by decide +kernel
theorem dX0_token_53 : decode cX0_token 53 = .ok (.bipush 48, 2) := by decide +kernel
theorem dX0_token_55 : decode cX0_token 55 = .ok (.lushr, 1) := by decide +kernel
theorem dX0_token_56 : decode cX0_token 56 = .ok (.l2i, 1) := by decide +kernel
theorem dX0_token_57 : decode cX0_token 57 = .ok (.bipush 15, 2) := by decide +kernel
theorem dX0_token_59 : decode cX0_token 59 = .ok (.iand, 1) := by decide +kernel
theorem dX0_token_60 : decode cX0_token 60 = .ok (.ireturn, 1) := by decide +kernel
theorem dX0_token_61 : decode cX0_token 61 = .ok (.lload_n 3, 1) := by decide +kernel
theorem dX0_token_62 : decode cX0_token 62 = .ok (.bipush 32, 2) := by decide +kernel
theorem dX0_token_64 : decode cX0_token 64 = .ok (.lushr, 1) := by decide +kernel
theorem dX0_token_65 : decode cX0_token 65 = .ok (.l2i, 1) := by decide +kernel
theorem dX0_token_66 : decode cX0_token 66 = .ok (.ldc 75, 2) := by decide +kernel
theorem dX0_token_68 : decode cX0_token 68 = .ok (.iand, 1) := by decide +kernel
theorem dX0_token_69 : decode cX0_token 69 = .ok (.ireturn, 1) := by decide +kernel
theorem dX0_token_70 : decode cX0_token 70 = .ok (.lload_n 3, 1) := by decide +kernel
theorem dX0_token_71 : decode cX0_token 71 = .ok (.invokestatic 76, 3) := by decide +kernel
theorem dX0_token_74 : decode cX0_token 74 = .ok (.ireturn, 1) := by decide +kernel
theorem dX0_token_75 : decode cX0_token 75 = .ok (.lload_n 3, 1) := by decide +kernel
theorem dX0_token_76 : decode cX0_token 76 = .ok (.bipush 52, 2) := by decide +kernel
theorem dX0_token_78 : decode cX0_token 78 = .ok (.lushr, 1) := by decide +kernel
theorem dX0_token_79 : decode cX0_token 79 = .ok (.l2i, 1) := by decide +kernel
theorem dX0_token_80 : decode cX0_token 80 = .ok (.iconst 1, 1) := by decide +kernel
theorem dX0_token_81 : decode cX0_token 81 = .ok (.iand, 1) := by decide +kernel
theorem dX0_token_82 : decode cX0_token 82 = .ok (.ireturn, 1) := by decide +kernel
theorem dX0_token_83 : decode cX0_token 83 = .ok (.iload_n 1, 1) := by decide +kernel
theorem dX0_token_84 : decode cX0_token 84 = .ok (.ifCond .ne 7, 3) := by decide +kernel
theorem dX0_token_87 : decode cX0_token 87 = .ok (.iconst 1, 1) := by decide +kernel
theorem dX0_token_88 : decode cX0_token 88 = .ok (.goto 4, 3) := by decide +kernel
theorem dX0_token_91 : decode cX0_token 91 = .ok (.iconst 0, 1) := by decide +kernel
theorem dX0_token_92 : decode cX0_token 92 = .ok (.ireturn, 1) := by decide +kernel
theorem dX0_token_93 : decode cX0_token 93 = .ok (.iconst (-1), 1) := by decide +kernel
theorem dX0_token_94 : decode cX0_token 94 = .ok (.ireturn, 1) := by decide +kernel
theorem dX0_spelling_0 : decode cX0_spelling 0 = .ok (.aload_n 0, 1) := by decide +kernel
theorem dX0_spelling_1 : decode cX0_spelling 1 = .ok (.iload_n 1, 1) := by decide +kernel
theorem dX0_spelling_2 : decode cX0_spelling 2 = .ok (.invokevirtual 71, 3) := by decide +kernel
theorem dX0_spelling_5 : decode cX0_spelling 5 = .ok (.ifCond .eq 7, 3) := by decide +kernel
theorem dX0_spelling_8 : decode cX0_spelling 8 = .ok (.iload_n 2, 1) := by decide +kernel
theorem dX0_spelling_9 : decode cX0_spelling 9 = .ok (.ifCond .ge 5, 3) := by decide +kernel
theorem dX0_spelling_12 : decode cX0_spelling 12 = .ok (.lconst 0, 1) := by decide +kernel
theorem dX0_spelling_13 : decode cX0_spelling 13 = .ok (.lreturn, 1) := by decide +kernel
theorem dX0_spelling_14 : decode cX0_spelling 14 = .ok (.aload_n 0, 1) := by decide +kernel
theorem dX0_spelling_15 : decode cX0_spelling 15 = .ok (.getfield 13, 3) := by decide +kernel
theorem dX0_spelling_18 : decode cX0_spelling 18 = .ok (.iload_n 1, 1) := by decide +kernel
theorem dX0_spelling_19 : decode cX0_spelling 19 = .ok (.laload, 1) := by decide +kernel
theorem dX0_spelling_20 : decode cX0_spelling 20 = .ok (.invokestatic 76, 3) := by decide +kernel
theorem dX0_spelling_23 : decode cX0_spelling 23 = .ok (.istore_n 3, 1) := by decide +kernel
theorem dX0_spelling_24 : decode cX0_spelling 24 = .ok (.iload_n 2, 1) := by decide +kernel
theorem dX0_spelling_25 : decode cX0_spelling 25 = .ok (.iload_n 3, 1) := by decide +kernel
theorem dX0_spelling_26 : decode cX0_spelling 26 = .ok (.bipush 8, 2) := by decide +kernel
theorem dX0_spelling_28 : decode cX0_spelling 28 = .ok (.idiv, 1) := by decide +kernel
theorem dX0_spelling_29 : decode cX0_spelling 29 = .ok (.if_icmp .le 5, 3) := by decide +kernel
theorem dX0_spelling_32 : decode cX0_spelling 32 = .ok (.lconst 0, 1) := by decide +kernel
theorem dX0_spelling_33 : decode cX0_spelling 33 = .ok (.lreturn, 1) := by decide +kernel
theorem dX0_spelling_34 : decode cX0_spelling 34 = .ok (.aload_n 0, 1) := by decide +kernel
theorem dX0_spelling_35 : decode cX0_spelling 35 = .ok (.getfield 13, 3) := by decide +kernel
theorem dX0_spelling_38 : decode cX0_spelling 38 = .ok (.iload_n 1, 1) := by decide +kernel
theorem dX0_spelling_39 : decode cX0_spelling 39 = .ok (.laload, 1) := by decide +kernel
theorem dX0_spelling_40 : decode cX0_spelling 40 = .ok (.invokestatic 80, 3) := by decide +kernel
theorem dX0_spelling_43 : decode cX0_spelling 43 = .ok (.istore 4, 2) := by decide +kernel
theorem dX0_spelling_45 : decode cX0_spelling 45 = .ok (.iconst 0, 1) := by decide +kernel
theorem dX0_spelling_46 : decode cX0_spelling 46 = .ok (.istore 5, 2) := by decide +kernel
theorem dX0_spelling_48 : decode cX0_spelling 48 = .ok (.iload 5, 2) := by decide +kernel
theorem dX0_spelling_50 : decode cX0_spelling 50 = .ok (.bipush 8, 2) := by decide +kernel
theorem dX0_spelling_52 : decode cX0_spelling 52 = .ok (.iload_n 2, 1) := by decide +kernel
theorem dX0_spelling_53 : decode cX0_spelling 53 = .ok (.imul, 1) := by decide +kernel
theorem dX0_spelling_54 : decode cX0_spelling 54 = .ok (.if_icmp .ge 19, 3) := by decide +kernel
theorem dX0_spelling_57 : decode cX0_spelling 57 = .ok (.aload_n 0, 1) := by decide +kernel
theorem dX0_spelling_58 : decode cX0_spelling 58 = .ok (.iload 4, 2) := by decide +kernel
theorem dX0_spelling_60 : decode cX0_spelling 60 = .ok (.iconst 1, 1) := by decide +kernel
theorem dX0_spelling_61 : decode cX0_spelling 61 = .ok (.iadd, 1) := by decide +kernel
theorem dX0_spelling_62 : decode cX0_spelling 62 = .ok (.invokevirtual 42, 3) := by decide +kernel
theorem dX0_spelling_65 : decode cX0_spelling 65 = .ok (.istore 4, 2) := by decide +kernel
theorem dX0_spelling_67 : decode cX0_spelling 67 = .ok (.iinc 5 1, 3) := by decide +kernel
theorem dX0_spelling_70 : decode cX0_spelling 70 = .ok (.goto (-22), 3) := by decide +kernel
theorem dX0_spelling_73 : decode cX0_spelling 73 = .ok (.lconst 0, 1) := by decide +kernel
theorem dX0_spelling_74 : decode cX0_spelling 74 = .ok (.lstore 5, 2) := by decide +kernel
theorem dX0_spelling_76 : decode cX0_spelling 76 = .ok (.iconst 0, 1) := by decide +kernel
theorem dX0_spelling_77 : decode cX0_spelling 77 = .ok (.istore 7, 2) := by decide +kernel
theorem dX0_spelling_79 : decode cX0_spelling 79 = .ok (.iload 7, 2) := by decide +kernel
theorem dX0_spelling_81 : decode cX0_spelling 81 = .ok (.bipush 8, 2) := by decide +kernel
theorem dX0_spelling_83 : decode cX0_spelling 83 = .ok (.if_icmp .ge 52, 3) := by decide +kernel
theorem dX0_spelling_86 : decode cX0_spelling 86 = .ok (.bipush 8, 2) := by decide +kernel
theorem dX0_spelling_88 : decode cX0_spelling 88 = .ok (.iload_n 2, 1) := by decide +kernel
theorem dX0_spelling_89 : decode cX0_spelling 89 = .ok (.imul, 1) := by decide +kernel
theorem dX0_spelling_90 : decode cX0_spelling 90 = .ok (.iload 7, 2) := by decide +kernel
theorem dX0_spelling_92 : decode cX0_spelling 92 = .ok (.iadd, 1) := by decide +kernel
theorem dX0_spelling_93 : decode cX0_spelling 93 = .ok (.iload_n 3, 1) := by decide +kernel
theorem dX0_spelling_94 : decode cX0_spelling 94 = .ok (.if_icmp .ge 41, 3) := by decide +kernel
theorem dX0_spelling_97 : decode cX0_spelling 97 = .ok (.lload 5, 2) := by decide +kernel
theorem dX0_spelling_99 : decode cX0_spelling 99 = .ok (.aload_n 0, 1) := by decide +kernel
theorem dX0_spelling_100 : decode cX0_spelling 100 = .ok (.iload 4, 2) := by decide +kernel
theorem dX0_spelling_102 : decode cX0_spelling 102 = .ok (.invokevirtual 28, 3) := by decide +kernel
theorem dX0_spelling_105 : decode cX0_spelling 105 = .ok (.i2l, 1) := by decide +kernel
theorem dX0_spelling_106 : decode cX0_spelling 106 = .ok (.ldc2_w 83, 3) := by decide +kernel
theorem dX0_spelling_109 : decode cX0_spelling 109 = .ok (.land, 1) := by decide +kernel
theorem dX0_spelling_110 : decode cX0_spelling 110 = .ok (.bipush 8, 2) := by decide +kernel
theorem dX0_spelling_112 : decode cX0_spelling 112 = .ok (.iload 7, 2) := by decide +kernel
theorem dX0_spelling_114 : decode cX0_spelling 114 = .ok (.imul, 1) := by decide +kernel
theorem dX0_spelling_115 : decode cX0_spelling 115 = .ok (.lshl, 1) := by decide +kernel
theorem dX0_spelling_116 : decode cX0_spelling 116 = .ok (.lor, 1) := by decide +kernel
theorem dX0_spelling_117 : decode cX0_spelling 117 = .ok (.lstore 5, 2) := by decide +kernel
theorem dX0_spelling_119 : decode cX0_spelling 119 = .ok (.aload_n 0, 1) := by decide +kernel
theorem dX0_spelling_120 : decode cX0_spelling 120 = .ok (.iload 4, 2) := by decide +kernel
theorem dX0_spelling_122 : decode cX0_spelling 122 = .ok (.iconst 1, 1) := by decide +kernel
theorem dX0_spelling_123 : decode cX0_spelling 123 = .ok (.iadd, 1) := by decide +kernel
theorem dX0_spelling_124 : decode cX0_spelling 124 = .ok (.invokevirtual 42, 3) := by decide +kernel
theorem dX0_spelling_127 : decode cX0_spelling 127 = .ok (.istore 4, 2) := by decide +kernel
theorem dX0_spelling_129 : decode cX0_spelling 129 = .ok (.iinc 7 1, 3) := by decide +kernel
theorem dX0_spelling_132 : decode cX0_spelling 132 = .ok (.goto (-53), 3) := by decide +kernel
theorem dX0_spelling_135 : decode cX0_spelling 135 = .ok (.lload 5, 2) := by decide +kernel
theorem dX0_spelling_137 : decode cX0_spelling 137 = .ok (.lreturn, 1) := by decide +kernel
theorem dX0_restart_0 : decode cX0_restart 0 = .ok (.aload_n 0, 1) := by decide +kernel
theorem dX0_restart_1 : decode cX0_restart 1 = .ok (.iconst 0, 1) := by decide +kernel
theorem dX0_restart_2 : decode cX0_restart 2 = .ok (.putfield 39, 3) := by decide +kernel
theorem dX0_restart_5 : decode cX0_restart 5 = .ok (.aload_n 0, 1) := by decide +kernel
theorem dX0_restart_6 : decode cX0_restart 6 = .ok (.iconst 1, 1) := by decide +kernel
theorem dX0_restart_7 : decode cX0_restart 7 = .ok (.putfield 68, 3) := by decide +kernel
theorem dX0_restart_10 : decode cX0_restart 10 = .ok (.aload_n 0, 1) := by decide +kernel
theorem dX0_restart_11 : decode cX0_restart 11 = .ok (.iconst 0, 1) := by decide +kernel
theorem dX0_restart_12 : decode cX0_restart 12 = .ok (.putfield 62, 3) := by decide +kernel
theorem dX0_restart_15 : decode cX0_restart 15 = .ok (.aload_n 0, 1) := by decide +kernel
theorem dX0_restart_16 : decode cX0_restart 16 = .ok (.iconst 0, 1) := by decide +kernel
theorem dX0_restart_17 : decode cX0_restart 17 = .ok (.putfield 85, 3) := by decide +kernel
theorem dX0_restart_20 : decode cX0_restart 20 = .ok (.aload_n 0, 1) := by decide +kernel
theorem dX0_restart_21 : decode cX0_restart 21 = .ok (.iconst 0, 1) := by decide +kernel
theorem dX0_restart_22 : decode cX0_restart 22 = .ok (.putfield 65, 3) := by decide +kernel
theorem dX0_restart_25 : decode cX0_restart 25 = .ok (.aload_n 0, 1) := by decide +kernel
theorem dX0_restart_26 : decode cX0_restart 26 = .ok (.iconst 0, 1) := by decide +kernel
theorem dX0_restart_27 : decode cX0_restart 27 = .ok (.putfield 35, 3) := by decide +kernel
theorem dX0_restart_30 : decode cX0_restart 30 = .ok (.aload_n 0, 1) := by decide +kernel
theorem dX0_restart_31 : decode cX0_restart 31 = .ok (.iconst 0, 1) := by decide +kernel
theorem dX0_restart_32 : decode cX0_restart 32 = .ok (.putfield 32, 3) := by decide +kernel
theorem dX0_restart_35 : decode cX0_restart 35 = .ok (.return_, 1) := by decide +kernel
theorem dX0_append_0 : decode cX0_append 0 = .ok (.aload_n 0, 1) := by decide +kernel
theorem dX0_append_1 : decode cX0_append 1 = .ok (.getfield 19, 3) := by decide +kernel
theorem dX0_append_4 : decode cX0_append 4 = .ok (.iconst 3, 1) := by decide +kernel
theorem dX0_append_5 : decode cX0_append 5 = .ok (.ishr, 1) := by decide +kernel
theorem dX0_append_6 : decode cX0_append 6 = .ok (.istore_n 2, 1) := by decide +kernel
theorem dX0_append_7 : decode cX0_append 7 = .ok (.iload_n 2, 1) := by decide +kernel
theorem dX0_append_8 : decode cX0_append 8 = .ok (.ifCond .lt 12, 3) := by decide +kernel
theorem dX0_append_11 : decode cX0_append 11 = .ok (.iload_n 2, 1) := by decide +kernel
theorem dX0_append_12 : decode cX0_append 12 = .ok (.aload_n 0, 1) := by decide +kernel
theorem dX0_append_13 : decode cX0_append 13 = .ok (.getfield 9, 3) := by decide +kernel
theorem dX0_append_16 : decode cX0_append 16 = .ok (.arraylength, 1) := by decide +kernel
theorem dX0_append_17 : decode cX0_append 17 = .ok (.if_icmp .lt 4, 3) := by decide +kernel
theorem dX0_append_20 : decode cX0_append 20 = .ok (.return_, 1) := by decide +kernel
theorem dX0_append_21 : decode cX0_append 21 = .ok (.aload_n 0, 1) := by decide +kernel
theorem dX0_append_22 : decode cX0_append 22 = .ok (.getfield 19, 3) := by decide +kernel
theorem dX0_append_25 : decode cX0_append 25 = .ok (.bipush 7, 2) := by decide +kernel
theorem dX0_append_27 : decode cX0_append 27 = .ok (.iand, 1) := by decide +kernel
theorem dX0_append_28 : decode cX0_append 28 = .ok (.iconst 3, 1) := by decide +kernel
theorem dX0_append_29 : decode cX0_append 29 = .ok (.ishl, 1) := by decide +kernel
theorem dX0_append_30 : decode cX0_append 30 = .ok (.istore_n 3, 1) := by decide +kernel
theorem dX0_append_31 : decode cX0_append 31 = .ok (.aload_n 0, 1) := by decide +kernel
theorem dX0_append_32 : decode cX0_append 32 = .ok (.getfield 9, 3) := by decide +kernel
theorem dX0_append_35 : decode cX0_append 35 = .ok (.iload_n 2, 1) := by decide +kernel
theorem dX0_append_36 : decode cX0_append 36 = .ok (.aload_n 0, 1) := by decide +kernel
theorem dX0_append_37 : decode cX0_append 37 = .ok (.getfield 9, 3) := by decide +kernel
theorem dX0_append_40 : decode cX0_append 40 = .ok (.iload_n 2, 1) := by decide +kernel
theorem dX0_append_41 : decode cX0_append 41 = .ok (.laload, 1) := by decide +kernel
theorem dX0_append_42 : decode cX0_append 42 = .ok (.ldc2_w 83, 3) := by decide +kernel
theorem dX0_append_45 : decode cX0_append 45 = .ok (.iload_n 3, 1) := by decide +kernel
theorem dX0_append_46 : decode cX0_append 46 = .ok (.lshl, 1) := by decide +kernel
theorem dX0_append_47 : decode cX0_append 47 = .ok (.ldc2_w 88, 3) := by decide +kernel
theorem dX0_append_50 : decode cX0_append 50 = .ok (.lxor, 1) := by decide +kernel
theorem dX0_append_51 : decode cX0_append 51 = .ok (.land, 1) := by decide +kernel
theorem dX0_append_52 : decode cX0_append 52 = .ok (.iload_n 1, 1) := by decide +kernel
theorem dX0_append_53 : decode cX0_append 53 = .ok (.i2l, 1) := by decide +kernel
theorem dX0_append_54 : decode cX0_append 54 = .ok (.ldc2_w 83, 3) := by decide +kernel
theorem dX0_append_57 : decode cX0_append 57 = .ok (.land, 1) := by decide +kernel
theorem dX0_append_58 : decode cX0_append 58 = .ok (.iload_n 3, 1) := by decide +kernel
theorem dX0_append_59 : decode cX0_append 59 = .ok (.lshl, 1) := by decide +kernel
theorem dX0_append_60 : decode cX0_append 60 = .ok (.lor, 1) := by decide +kernel
theorem dX0_append_61 : decode cX0_append 61 = .ok (.lastore, 1) := by decide +kernel
theorem dX0_append_62 : decode cX0_append 62 = .ok (.aload_n 0, 1) := by decide +kernel
theorem dX0_append_63 : decode cX0_append 63 = .ok (.dup, 1) := by decide +kernel
theorem dX0_append_64 : decode cX0_append 64 = .ok (.getfield 19, 3) := by decide +kernel
theorem dX0_append_67 : decode cX0_append 67 = .ok (.iconst 1, 1) := by decide +kernel
theorem dX0_append_68 : decode cX0_append 68 = .ok (.iadd, 1) := by decide +kernel
theorem dX0_append_69 : decode cX0_append 69 = .ok (.putfield 19, 3) := by decide +kernel
theorem dX0_append_72 : decode cX0_append 72 = .ok (.return_, 1) := by decide +kernel
theorem dX0_byteAt_0 : decode cX0_byteAt 0 = .ok (.iload_n 1, 1) := by decide +kernel
theorem dX0_byteAt_1 : decode cX0_byteAt 1 = .ok (.iconst 3, 1) := by decide +kernel
theorem dX0_byteAt_2 : decode cX0_byteAt 2 = .ok (.ishr, 1) := by decide +kernel
theorem dX0_byteAt_3 : decode cX0_byteAt 3 = .ok (.istore_n 2, 1) := by decide +kernel
theorem dX0_byteAt_4 : decode cX0_byteAt 4 = .ok (.iload_n 1, 1) := by decide +kernel
theorem dX0_byteAt_5 : decode cX0_byteAt 5 = .ok (.ifCond .lt 20, 3) := by decide +kernel
theorem dX0_byteAt_8 : decode cX0_byteAt 8 = .ok (.iload_n 1, 1) := by decide +kernel
theorem dX0_byteAt_9 : decode cX0_byteAt 9 = .ok (.aload_n 0, 1) := by decide +kernel
theorem dX0_byteAt_10 : decode cX0_byteAt 10 = .ok (.getfield 19, 3) := by decide +kernel
theorem dX0_byteAt_13 : decode cX0_byteAt 13 = .ok (.if_icmp .ge 12, 3) := by decide +kernel
theorem dX0_byteAt_16 : decode cX0_byteAt 16 = .ok (.iload_n 2, 1) := by decide +kernel
theorem dX0_byteAt_17 : decode cX0_byteAt 17 = .ok (.aload_n 0, 1) := by decide +kernel
theorem dX0_byteAt_18 : decode cX0_byteAt 18 = .ok (.getfield 9, 3) := by decide +kernel
theorem dX0_byteAt_21 : decode cX0_byteAt 21 = .ok (.arraylength, 1) := by decide +kernel
theorem dX0_byteAt_22 : decode cX0_byteAt 22 = .ok (.if_icmp .lt 5, 3) := by decide +kernel
theorem dX0_byteAt_25 : decode cX0_byteAt 25 = .ok (.iconst (-1), 1) := by decide +kernel
theorem dX0_byteAt_26 : decode cX0_byteAt 26 = .ok (.ireturn, 1) := by decide +kernel
theorem dX0_byteAt_27 : decode cX0_byteAt 27 = .ok (.aload_n 0, 1) := by decide +kernel
theorem dX0_byteAt_28 : decode cX0_byteAt 28 = .ok (.getfield 9, 3) := by decide +kernel
theorem dX0_byteAt_31 : decode cX0_byteAt 31 = .ok (.iload_n 2, 1) := by decide +kernel
theorem dX0_byteAt_32 : decode cX0_byteAt 32 = .ok (.laload, 1) := by decide +kernel
theorem dX0_byteAt_33 : decode cX0_byteAt 33 = .ok (.iload_n 1, 1) := by decide +kernel
theorem dX0_byteAt_34 : decode cX0_byteAt 34 = .ok (.bipush 7, 2) := by decide +kernel
theorem dX0_byteAt_36 : decode cX0_byteAt 36 = .ok (.iand, 1) := by decide +kernel
theorem dX0_byteAt_37 : decode cX0_byteAt 37 = .ok (.iconst 3, 1) := by decide +kernel
theorem dX0_byteAt_38 : decode cX0_byteAt 38 = .ok (.ishl, 1) := by decide +kernel
theorem dX0_byteAt_39 : decode cX0_byteAt 39 = .ok (.lushr, 1) := by decide +kernel
theorem dX0_byteAt_40 : decode cX0_byteAt 40 = .ok (.l2i, 1) := by decide +kernel
theorem dX0_byteAt_41 : decode cX0_byteAt 41 = .ok (.sipush 255, 3) := by decide +kernel
theorem dX0_byteAt_44 : decode cX0_byteAt 44 = .ok (.iand, 1) := by decide +kernel
theorem dX0_byteAt_45 : decode cX0_byteAt 45 = .ok (.ireturn, 1) := by decide +kernel
theorem dX0_leftFrom_0 : decode cX0_leftFrom 0 = .ok (.iload_n 1, 1) := by decide +kernel
theorem dX0_leftFrom_1 : decode cX0_leftFrom 1 = .ok (.istore_n 2, 1) := by decide +kernel
theorem dX0_leftFrom_2 : decode cX0_leftFrom 2 = .ok (.iload_n 2, 1) := by decide +kernel
theorem dX0_leftFrom_3 : decode cX0_leftFrom 3 = .ok (.iconst 1, 1) := by decide +kernel
theorem dX0_leftFrom_4 : decode cX0_leftFrom 4 = .ok (.iadd, 1) := by decide +kernel
theorem dX0_leftFrom_5 : decode cX0_leftFrom 5 = .ok (.aload_n 0, 1) := by decide +kernel
theorem dX0_leftFrom_6 : decode cX0_leftFrom 6 = .ok (.getfield 19, 3) := by decide +kernel
theorem dX0_leftFrom_9 : decode cX0_leftFrom 9 = .ok (.if_icmp .ge 31, 3) := by decide +kernel
theorem dX0_leftFrom_12 : decode cX0_leftFrom 12 = .ok (.aload_n 0, 1) := by decide +kernel
theorem dX0_leftFrom_13 : decode cX0_leftFrom 13 = .ok (.iload_n 2, 1) := by decide +kernel
theorem dX0_leftFrom_14 : decode cX0_leftFrom 14 = .ok (.invokevirtual 28, 3) := by decide +kernel
theorem dX0_leftFrom_17 : decode cX0_leftFrom 17 = .ok (.bipush 92, 2) := by decide +kernel
theorem dX0_leftFrom_19 : decode cX0_leftFrom 19 = .ok (.if_icmp .ne 21, 3) := by decide +kernel
theorem dX0_leftFrom_22 : decode cX0_leftFrom 22 = .ok (.aload_n 0, 1) := by decide +kernel
theorem dX0_leftFrom_23 : decode cX0_leftFrom 23 = .ok (.iload_n 2, 1) := by decide +kernel
theorem dX0_leftFrom_24 : decode cX0_leftFrom 24 = .ok (.iconst 1, 1) := by decide +kernel
theorem dX0_leftFrom_25 : decode cX0_leftFrom 25 = .ok (.iadd, 1) := by decide +kernel
theorem dX0_leftFrom_26 : decode cX0_leftFrom 26 = .ok (.invokevirtual 28, 3) := by decide +kernel
theorem dX0_leftFrom_29 : decode cX0_leftFrom 29 = .ok (.bipush 10, 2) := by decide +kernel
theorem dX0_leftFrom_31 : decode cX0_leftFrom 31 = .ok (.if_icmp .ne 9, 3) := by decide +kernel
theorem dX0_leftFrom_34 : decode cX0_leftFrom 34 = .ok (.iinc 2 2, 3) := by decide +kernel
theorem dX0_leftFrom_37 : decode cX0_leftFrom 37 = .ok (.goto (-35), 3) := by decide +kernel
theorem dX0_leftFrom_40 : decode cX0_leftFrom 40 = .ok (.iload_n 2, 1) := by decide +kernel
theorem dX0_leftFrom_41 : decode cX0_leftFrom 41 = .ok (.ireturn, 1) := by decide +kernel
theorem dX0_pass_0 : decode cX0_pass 0 = .ok (.iconst 0, 1) := by decide +kernel
theorem dX0_pass_1 : decode cX0_pass 1 = .ok (.istore_n 2, 1) := by decide +kernel
theorem dX0_pass_2 : decode cX0_pass 2 = .ok (.aload_n 0, 1) := by decide +kernel
theorem dX0_pass_3 : decode cX0_pass 3 = .ok (.getfield 39, 3) := by decide +kernel
theorem dX0_pass_6 : decode cX0_pass 6 = .ok (.iload_n 1, 1) := by decide +kernel
theorem dX0_pass_7 : decode cX0_pass 7 = .ok (.if_icmp .ge 85, 3) := by decide +kernel
theorem dX0_pass_10 : decode cX0_pass 10 = .ok (.aload_n 0, 1) := by decide +kernel
theorem dX0_pass_11 : decode cX0_pass 11 = .ok (.aload_n 0, 1) := by decide +kernel
theorem dX0_pass_12 : decode cX0_pass 12 = .ok (.getfield 39, 3) := by decide +kernel
theorem dX0_pass_15 : decode cX0_pass 15 = .ok (.invokevirtual 42, 3) := by decide +kernel
theorem dX0_pass_18 : decode cX0_pass 18 = .ok (.istore_n 3, 1) := by decide +kernel
theorem dX0_pass_19 : decode cX0_pass 19 = .ok (.aload_n 0, 1) := by decide +kernel
theorem dX0_pass_20 : decode cX0_pass 20 = .ok (.dup, 1) := by decide +kernel
theorem dX0_pass_21 : decode cX0_pass 21 = .ok (.getfield 68, 3) := by decide +kernel
theorem dX0_pass_24 : decode cX0_pass 24 = .ok (.iload_n 3, 1) := by decide +kernel
theorem dX0_pass_25 : decode cX0_pass 25 = .ok (.aload_n 0, 1) := by decide +kernel
theorem dX0_pass_26 : decode cX0_pass 26 = .ok (.getfield 39, 3) := by decide +kernel
theorem dX0_pass_29 : decode cX0_pass 29 = .ok (.isub, 1) := by decide +kernel
theorem dX0_pass_30 : decode cX0_pass 30 = .ok (.iconst 2, 1) := by decide +kernel
theorem dX0_pass_31 : decode cX0_pass 31 = .ok (.idiv, 1) := by decide +kernel
theorem dX0_pass_32 : decode cX0_pass 32 = .ok (.iadd, 1) := by decide +kernel
theorem dX0_pass_33 : decode cX0_pass 33 = .ok (.putfield 68, 3) := by decide +kernel
theorem dX0_pass_36 : decode cX0_pass 36 = .ok (.aload_n 0, 1) := by decide +kernel
theorem dX0_pass_37 : decode cX0_pass 37 = .ok (.iload_n 3, 1) := by decide +kernel
theorem dX0_pass_38 : decode cX0_pass 38 = .ok (.putfield 39, 3) := by decide +kernel
theorem dX0_pass_41 : decode cX0_pass 41 = .ok (.aload_n 0, 1) := by decide +kernel
theorem dX0_pass_42 : decode cX0_pass 42 = .ok (.getfield 39, 3) := by decide +kernel
theorem dX0_pass_45 : decode cX0_pass 45 = .ok (.iload_n 1, 1) := by decide +kernel
theorem dX0_pass_46 : decode cX0_pass 46 = .ok (.if_icmp .ge 43, 3) := by decide +kernel
theorem dX0_pass_49 : decode cX0_pass 49 = .ok (.aload_n 0, 1) := by decide +kernel
theorem dX0_pass_50 : decode cX0_pass 50 = .ok (.dup, 1) := by decide +kernel
theorem dX0_pass_51 : decode cX0_pass 51 = .ok (.getfield 68, 3) := by decide +kernel
theorem dX0_pass_54 : decode cX0_pass 54 = .ok (.aload_n 0, 1) := by decide +kernel
theorem dX0_pass_55 : decode cX0_pass 55 = .ok (.aload_n 0, 1) := by decide +kernel
theorem dX0_pass_56 : decode cX0_pass 56 = .ok (.getfield 39, 3) := by decide +kernel
theorem dX0_pass_59 : decode cX0_pass 59 = .ok (.invokevirtual 28, 3) := by decide +kernel
theorem dX0_pass_62 : decode cX0_pass 62 = .ok (.bipush 10, 2) := by decide +kernel
theorem dX0_pass_64 : decode cX0_pass 64 = .ok (.if_icmp .ne 7, 3) := by decide +kernel
theorem dX0_pass_67 : decode cX0_pass 67 = .ok (.iconst 1, 1) := by decide +kernel
theorem dX0_pass_68 : decode cX0_pass 68 = .ok (.goto 4, 3) := by decide +kernel
theorem dX0_pass_71 : decode cX0_pass 71 = .ok (.iconst 0, 1) := by decide +kernel
theorem dX0_pass_72 : decode cX0_pass 72 = .ok (.iadd, 1) := by decide +kernel
theorem dX0_pass_73 : decode cX0_pass 73 = .ok (.putfield 68, 3) := by decide +kernel
theorem dX0_pass_76 : decode cX0_pass 76 = .ok (.iinc 2 1, 3) := by decide +kernel
theorem dX0_pass_79 : decode cX0_pass 79 = .ok (.aload_n 0, 1) := by decide +kernel
theorem dX0_pass_80 : decode cX0_pass 80 = .ok (.dup, 1) := by decide +kernel
theorem dX0_pass_81 : decode cX0_pass 81 = .ok (.getfield 39, 3) := by decide +kernel
theorem dX0_pass_84 : decode cX0_pass 84 = .ok (.iconst 1, 1) := by decide +kernel
theorem dX0_pass_85 : decode cX0_pass 85 = .ok (.iadd, 1) := by decide +kernel
theorem dX0_pass_86 : decode cX0_pass 86 = .ok (.putfield 39, 3) := by decide +kernel
theorem dX0_pass_89 : decode cX0_pass 89 = .ok (.goto (-87), 3) := by decide +kernel
theorem dX0_pass_92 : decode cX0_pass 92 = .ok (.iload_n 2, 1) := by decide +kernel
theorem dX0_pass_93 : decode cX0_pass 93 = .ok (.ireturn, 1) := by decide +kernel
theorem dX0_openLine_0 : decode cX0_openLine 0 = .ok (.aload_n 0, 1) := by decide +kernel
theorem dX0_openLine_1 : decode cX0_openLine 1 = .ok (.iconst 0, 1) := by decide +kernel
theorem dX0_openLine_2 : decode cX0_openLine 2 = .ok (.putfield 90, 3) := by decide +kernel
theorem dX0_openLine_5 : decode cX0_openLine 5 = .ok (.aload_n 0, 1) := by decide +kernel
theorem dX0_openLine_6 : decode cX0_openLine 6 = .ok (.iconst 1, 1) := by decide +kernel
theorem dX0_openLine_7 : decode cX0_openLine 7 = .ok (.putfield 93, 3) := by decide +kernel
theorem dX0_openLine_10 : decode cX0_openLine 10 = .ok (.aload_n 0, 1) := by decide +kernel
theorem dX0_openLine_11 : decode cX0_openLine 11 = .ok (.iconst 0, 1) := by decide +kernel
theorem dX0_openLine_12 : decode cX0_openLine 12 = .ok (.putfield 96, 3) := by decide +kernel
theorem dX0_openLine_15 : decode cX0_openLine 15 = .ok (.aload_n 0, 1) := by decide +kernel
theorem dX0_openLine_16 : decode cX0_openLine 16 = .ok (.iconst 0, 1) := by decide +kernel
theorem dX0_openLine_17 : decode cX0_openLine 17 = .ok (.putfield 99, 3) := by decide +kernel
theorem dX0_openLine_20 : decode cX0_openLine 20 = .ok (.return_, 1) := by decide +kernel
theorem dX0_closeLine_0 : decode cX0_closeLine 0 = .ok (.aload_n 0, 1) := by decide +kernel
theorem dX0_closeLine_1 : decode cX0_closeLine 1 = .ok (.getfield 90, 3) := by decide +kernel
theorem dX0_closeLine_4 : decode cX0_closeLine 4 = .ok (.ifCond .ne 5, 3) := by decide +kernel
theorem dX0_closeLine_7 : decode cX0_closeLine 7 = .ok (.iconst 0, 1) := by decide +kernel
theorem dX0_closeLine_8 : decode cX0_closeLine 8 = .ok (.ireturn, 1) := by decide +kernel
theorem dX0_closeLine_9 : decode cX0_closeLine 9 = .ok (.aload_n 0, 1) := by decide +kernel
theorem dX0_closeLine_10 : decode cX0_closeLine 10 = .ok (.getfield 62, 3) := by decide +kernel
theorem dX0_closeLine_13 : decode cX0_closeLine 13 = .ok (.sipush 20000, 3) := by decide +kernel
theorem dX0_closeLine_16 : decode cX0_closeLine 16 = .ok (.if_icmp .lt 14, 3) := by decide +kernel
theorem dX0_closeLine_19 : decode cX0_closeLine 19 = .ok (.aload_n 0, 1) := by decide +kernel
theorem dX0_closeLine_20 : decode cX0_closeLine 20 = .ok (.aload_n 0, 1) := by decide +kernel
theorem dX0_closeLine_21 : decode cX0_closeLine 21 = .ok (.getfield 102, 3) := by decide +kernel
theorem dX0_closeLine_24 : decode cX0_closeLine 24 = .ok (.bipush 21, 2) := by decide +kernel
theorem dX0_closeLine_26 : decode cX0_closeLine 26 = .ok (.invokevirtual 105, 3) := by decide +kernel
theorem dX0_closeLine_29 : decode cX0_closeLine 29 = .ok (.ireturn, 1) := by decide +kernel
theorem dX0_closeLine_30 : decode cX0_closeLine 30 = .ok (.aload_n 0, 1) := by decide +kernel
theorem dX0_closeLine_31 : decode cX0_closeLine 31 = .ok (.dup, 1) := by decide +kernel
theorem dX0_closeLine_32 : decode cX0_closeLine 32 = .ok (.getfield 62, 3) := by decide +kernel
theorem dX0_closeLine_35 : decode cX0_closeLine 35 = .ok (.iconst 1, 1) := by decide +kernel
theorem dX0_closeLine_36 : decode cX0_closeLine 36 = .ok (.iadd, 1) := by decide +kernel
theorem dX0_closeLine_37 : decode cX0_closeLine 37 = .ok (.putfield 62, 3) := by decide +kernel
theorem dX0_closeLine_40 : decode cX0_closeLine 40 = .ok (.aload_n 0, 1) := by decide +kernel
theorem dX0_closeLine_41 : decode cX0_closeLine 41 = .ok (.getfield 90, 3) := by decide +kernel
theorem dX0_closeLine_44 : decode cX0_closeLine 44 = .ok (.sipush 8000, 3) := by decide +kernel
theorem dX0_closeLine_47 : decode cX0_closeLine 47 = .ok (.if_icmp .le 14, 3) := by decide +kernel
theorem dX0_closeLine_50 : decode cX0_closeLine 50 = .ok (.aload_n 0, 1) := by decide +kernel
theorem dX0_closeLine_51 : decode cX0_closeLine 51 = .ok (.aload_n 0, 1) := by decide +kernel
theorem dX0_closeLine_52 : decode cX0_closeLine 52 = .ok (.getfield 109, 3) := by decide +kernel
theorem dX0_closeLine_55 : decode cX0_closeLine 55 = .ok (.bipush 21, 2) := by decide +kernel
theorem dX0_closeLine_57 : decode cX0_closeLine 57 = .ok (.invokevirtual 105, 3) := by decide +kernel
theorem dX0_closeLine_60 : decode cX0_closeLine 60 = .ok (.ireturn, 1) := by decide +kernel
theorem dX0_closeLine_61 : decode cX0_closeLine 61 = .ok (.aload_n 0, 1) := by decide +kernel
theorem dX0_closeLine_62 : decode cX0_closeLine 62 = .ok (.aload_n 0, 1) := by decide +kernel
theorem dX0_closeLine_63 : decode cX0_closeLine 63 = .ok (.getfield 90, 3) := by decide +kernel
theorem dX0_closeLine_66 : decode cX0_closeLine 66 = .ok (.putfield 32, 3) := by decide +kernel
theorem dX0_closeLine_69 : decode cX0_closeLine 69 = .ok (.iconst 0, 1) := by decide +kernel
theorem dX0_closeLine_70 : decode cX0_closeLine 70 = .ok (.ireturn, 1) := by decide +kernel
theorem dX0_stopAt_0 : decode cX0_stopAt 0 = .ok (.aload_n 0, 1) := by decide +kernel
theorem dX0_stopAt_1 : decode cX0_stopAt 1 = .ok (.iconst 1, 1) := by decide +kernel
theorem dX0_stopAt_2 : decode cX0_stopAt 2 = .ok (.putfield 35, 3) := by decide +kernel
theorem dX0_stopAt_5 : decode cX0_stopAt 5 = .ok (.aload_n 0, 1) := by decide +kernel
theorem dX0_stopAt_6 : decode cX0_stopAt 6 = .ok (.iload_n 1, 1) := by decide +kernel
theorem dX0_stopAt_7 : decode cX0_stopAt 7 = .ok (.putfield 65, 3) := by decide +kernel
theorem dX0_stopAt_10 : decode cX0_stopAt 10 = .ok (.iload_n 2, 1) := by decide +kernel
theorem dX0_stopAt_11 : decode cX0_stopAt 11 = .ok (.ireturn, 1) := by decide +kernel
theorem dX0_cutPiece_0 : decode cX0_cutPiece 0 = .ok (.aload_n 0, 1) := by decide +kernel
theorem dX0_cutPiece_1 : decode cX0_cutPiece 1 = .ok (.aload_n 0, 1) := by decide +kernel
theorem dX0_cutPiece_2 : decode cX0_cutPiece 2 = .ok (.getfield 39, 3) := by decide +kernel
theorem dX0_cutPiece_5 : decode cX0_cutPiece 5 = .ok (.invokevirtual 28, 3) := by decide +kernel
theorem dX0_cutPiece_8 : decode cX0_cutPiece 8 = .ok (.istore_n 1, 1) := by decide +kernel
theorem dX0_cutPiece_9 : decode cX0_cutPiece 9 = .ok (.aload_n 0, 1) := by decide +kernel
theorem dX0_cutPiece_10 : decode cX0_cutPiece 10 = .ok (.aload_n 0, 1) := by decide +kernel
theorem dX0_cutPiece_11 : decode cX0_cutPiece 11 = .ok (.getfield 39, 3) := by decide +kernel
theorem dX0_cutPiece_14 : decode cX0_cutPiece 14 = .ok (.iconst 1, 1) := by decide +kernel
theorem dX0_cutPiece_15 : decode cX0_cutPiece 15 = .ok (.iadd, 1) := by decide +kernel
theorem dX0_cutPiece_16 : decode cX0_cutPiece 16 = .ok (.invokevirtual 42, 3) := by decide +kernel
theorem dX0_cutPiece_19 : decode cX0_cutPiece 19 = .ok (.istore_n 2, 1) := by decide +kernel
theorem dX0_cutPiece_20 : decode cX0_cutPiece 20 = .ok (.aload_n 0, 1) := by decide +kernel
theorem dX0_cutPiece_21 : decode cX0_cutPiece 21 = .ok (.iload_n 2, 1) := by decide +kernel
theorem dX0_cutPiece_22 : decode cX0_cutPiece 22 = .ok (.invokevirtual 28, 3) := by decide +kernel
theorem dX0_cutPiece_25 : decode cX0_cutPiece 25 = .ok (.istore_n 3, 1) := by decide +kernel
theorem dX0_cutPiece_26 : decode cX0_cutPiece 26 = .ok (.iload_n 1, 1) := by decide +kernel
theorem dX0_cutPiece_27 : decode cX0_cutPiece 27 = .ok (.bipush 10, 2) := by decide +kernel
theorem dX0_cutPiece_29 : decode cX0_cutPiece 29 = .ok (.if_icmp .ne 14, 3) := by decide +kernel
theorem dX0_cutPiece_32 : decode cX0_cutPiece 32 = .ok (.aload_n 0, 1) := by decide +kernel
theorem dX0_cutPiece_33 : decode cX0_cutPiece 33 = .ok (.aload_n 0, 1) := by decide +kernel
theorem dX0_cutPiece_34 : decode cX0_cutPiece 34 = .ok (.getfield 39, 3) := by decide +kernel
theorem dX0_cutPiece_37 : decode cX0_cutPiece 37 = .ok (.iconst 1, 1) := by decide +kernel
theorem dX0_cutPiece_38 : decode cX0_cutPiece 38 = .ok (.iadd, 1) := by decide +kernel
theorem dX0_cutPiece_39 : decode cX0_cutPiece 39 = .ok (.invokevirtual 112, 3) := by decide +kernel
theorem dX0_cutPiece_42 : decode cX0_cutPiece 42 = .ok (.ireturn, 1) := by decide +kernel
theorem dX0_cutPiece_43 : decode cX0_cutPiece 43 = .ok (.iload_n 1, 1) := by decide +kernel
theorem dX0_cutPiece_44 : decode cX0_cutPiece 44 = .ok (.invokestatic 115, 3) := by decide +kernel
theorem dX0_cutPiece_47 : decode cX0_cutPiece 47 = .ok (.ifCond .eq 9, 3) := by decide +kernel
theorem dX0_cutPiece_50 : decode cX0_cutPiece 50 = .ok (.aload_n 0, 1) := by decide +kernel
theorem dX0_cutPiece_51 : decode cX0_cutPiece 51 = .ok (.iload_n 2, 1) := by decide +kernel
theorem dX0_cutPiece_52 : decode cX0_cutPiece 52 = .ok (.invokevirtual 112, 3) := by decide +kernel
theorem dX0_cutPiece_55 : decode cX0_cutPiece 55 = .ok (.ireturn, 1) := by decide +kernel
theorem dX0_cutPiece_56 : decode cX0_cutPiece 56 = .ok (.iload_n 1, 1) := by decide +kernel
theorem dX0_cutPiece_57 : decode cX0_cutPiece 57 = .ok (.bipush 47, 2) := by decide +kernel
theorem dX0_cutPiece_59 : decode cX0_cutPiece 59 = .ok (.if_icmp .ne 21, 3) := by decide +kernel
theorem dX0_cutPiece_62 : decode cX0_cutPiece 62 = .ok (.iload_n 3, 1) := by decide +kernel
theorem dX0_cutPiece_63 : decode cX0_cutPiece 63 = .ok (.bipush 42, 2) := by decide +kernel
theorem dX0_cutPiece_65 : decode cX0_cutPiece 65 = .ok (.if_icmp .ne 15, 3) := by decide +kernel
theorem dX0_cutPiece_68 : decode cX0_cutPiece 68 = .ok (.aload_n 0, 1) := by decide +kernel
theorem dX0_cutPiece_69 : decode cX0_cutPiece 69 = .ok (.aload_n 0, 1) := by decide +kernel
theorem dX0_cutPiece_70 : decode cX0_cutPiece 70 = .ok (.iload_n 2, 1) := by decide +kernel
theorem dX0_cutPiece_71 : decode cX0_cutPiece 71 = .ok (.iconst 1, 1) := by decide +kernel
theorem dX0_cutPiece_72 : decode cX0_cutPiece 72 = .ok (.iadd, 1) := by decide +kernel
theorem dX0_cutPiece_73 : decode cX0_cutPiece 73 = .ok (.invokevirtual 42, 3) := by decide +kernel
theorem dX0_cutPiece_76 : decode cX0_cutPiece 76 = .ok (.invokevirtual 118, 3) := by decide +kernel
theorem dX0_cutPiece_79 : decode cX0_cutPiece 79 = .ok (.ireturn, 1) := by decide +kernel
theorem dX0_cutPiece_80 : decode cX0_cutPiece 80 = .ok (.iload_n 1, 1) := by decide +kernel
theorem dX0_cutPiece_81 : decode cX0_cutPiece 81 = .ok (.bipush 47, 2) := by decide +kernel
theorem dX0_cutPiece_83 : decode cX0_cutPiece 83 = .ok (.if_icmp .ne 19, 3) := by decide +kernel
theorem dX0_cutPiece_86 : decode cX0_cutPiece 86 = .ok (.iload_n 3, 1) := by decide +kernel
theorem dX0_cutPiece_87 : decode cX0_cutPiece 87 = .ok (.bipush 47, 2) := by decide +kernel
theorem dX0_cutPiece_89 : decode cX0_cutPiece 89 = .ok (.if_icmp .ne 13, 3) := by decide +kernel
theorem dX0_cutPiece_92 : decode cX0_cutPiece 92 = .ok (.aload_n 0, 1) := by decide +kernel
theorem dX0_cutPiece_93 : decode cX0_cutPiece 93 = .ok (.aload_n 0, 1) := by decide +kernel
theorem dX0_cutPiece_94 : decode cX0_cutPiece 94 = .ok (.iload_n 2, 1) := by decide +kernel
theorem dX0_cutPiece_95 : decode cX0_cutPiece 95 = .ok (.invokevirtual 121, 3) := by decide +kernel
theorem dX0_cutPiece_98 : decode cX0_cutPiece 98 = .ok (.invokevirtual 112, 3) := by decide +kernel
theorem dX0_cutPiece_101 : decode cX0_cutPiece 101 = .ok (.ireturn, 1) := by decide +kernel
theorem dX0_cutPiece_102 : decode cX0_cutPiece 102 = .ok (.iload_n 1, 1) := by decide +kernel
theorem dX0_cutPiece_103 : decode cX0_cutPiece 103 = .ok (.invokestatic 124, 3) := by decide +kernel
theorem dX0_cutPiece_106 : decode cX0_cutPiece 106 = .ok (.ifCond .eq 9, 3) := by decide +kernel
theorem dX0_cutPiece_109 : decode cX0_cutPiece 109 = .ok (.aload_n 0, 1) := by decide +kernel
theorem dX0_cutPiece_110 : decode cX0_cutPiece 110 = .ok (.iload_n 1, 1) := by decide +kernel
theorem dX0_cutPiece_111 : decode cX0_cutPiece 111 = .ok (.invokevirtual 127, 3) := by decide +kernel
theorem dX0_cutPiece_114 : decode cX0_cutPiece 114 = .ok (.ireturn, 1) := by decide +kernel
theorem dX0_cutPiece_115 : decode cX0_cutPiece 115 = .ok (.iload_n 1, 1) := by decide +kernel
theorem dX0_cutPiece_116 : decode cX0_cutPiece 116 = .ok (.bipush 76, 2) := by decide +kernel
theorem dX0_cutPiece_118 : decode cX0_cutPiece 118 = .ok (.if_icmp .ne 17, 3) := by decide +kernel
theorem dX0_cutPiece_121 : decode cX0_cutPiece 121 = .ok (.iload_n 3, 1) := by decide +kernel
theorem dX0_cutPiece_122 : decode cX0_cutPiece 122 = .ok (.invokestatic 124, 3) := by decide +kernel
theorem dX0_cutPiece_125 : decode cX0_cutPiece 125 = .ok (.ifCond .eq 10, 3) := by decide +kernel
theorem dX0_cutPiece_128 : decode cX0_cutPiece 128 = .ok (.aload_n 0, 1) := by decide +kernel
theorem dX0_cutPiece_129 : decode cX0_cutPiece 129 = .ok (.iload_n 2, 1) := by decide +kernel
theorem dX0_cutPiece_130 : decode cX0_cutPiece 130 = .ok (.iload_n 3, 1) := by decide +kernel
theorem dX0_cutPiece_131 : decode cX0_cutPiece 131 = .ok (.invokevirtual 130, 3) := by decide +kernel
theorem dX0_cutPiece_134 : decode cX0_cutPiece 134 = .ok (.ireturn, 1) := by decide +kernel
theorem dX0_cutPiece_135 : decode cX0_cutPiece 135 = .ok (.iload_n 1, 1) := by decide +kernel
theorem dX0_cutPiece_136 : decode cX0_cutPiece 136 = .ok (.invokestatic 133, 3) := by decide +kernel
theorem dX0_cutPiece_139 : decode cX0_cutPiece 139 = .ok (.ifCond .eq 14, 3) := by decide +kernel
theorem dX0_cutPiece_142 : decode cX0_cutPiece 142 = .ok (.aload_n 0, 1) := by decide +kernel
theorem dX0_cutPiece_143 : decode cX0_cutPiece 143 = .ok (.iconst 1, 1) := by decide +kernel
theorem dX0_cutPiece_144 : decode cX0_cutPiece 144 = .ok (.aload_n 0, 1) := by decide +kernel
theorem dX0_cutPiece_145 : decode cX0_cutPiece 145 = .ok (.iload_n 2, 1) := by decide +kernel
theorem dX0_cutPiece_146 : decode cX0_cutPiece 146 = .ok (.invokevirtual 136, 3) := by decide +kernel
theorem dX0_cutPiece_149 : decode cX0_cutPiece 149 = .ok (.invokevirtual 139, 3) := by decide +kernel
theorem dX0_cutPiece_152 : decode cX0_cutPiece 152 = .ok (.ireturn, 1) := by decide +kernel
theorem dX0_cutPiece_153 : decode cX0_cutPiece 153 = .ok (.iload_n 1, 1) := by decide +kernel
theorem dX0_cutPiece_154 : decode cX0_cutPiece 154 = .ok (.invokestatic 142, 3) := by decide +kernel
theorem dX0_cutPiece_157 : decode cX0_cutPiece 157 = .ok (.ifCond .ne 16, 3) := by decide +kernel
theorem dX0_cutPiece_160 : decode cX0_cutPiece 160 = .ok (.iload_n 1, 1) := by decide +kernel
theorem dX0_cutPiece_161 : decode cX0_cutPiece 161 = .ok (.bipush 46, 2) := by decide +kernel
theorem dX0_cutPiece_163 : decode cX0_cutPiece 163 = .ok (.if_icmp .ne 22, 3) := by decide +kernel
theorem dX0_cutPiece_166 : decode cX0_cutPiece 166 = .ok (.iload_n 3, 1) := by decide +kernel
theorem dX0_cutPiece_167 : decode cX0_cutPiece 167 = .ok (.invokestatic 142, 3) := by decide +kernel
theorem dX0_cutPiece_170 : decode cX0_cutPiece 170 = .ok (.ifCond .eq 15, 3) := by decide +kernel
theorem dX0_cutPiece_173 : decode cX0_cutPiece 173 = .ok (.aload_n 0, 1) := by decide +kernel
theorem dX0_cutPiece_174 : decode cX0_cutPiece 174 = .ok (.iconst 2, 1) := by decide +kernel
theorem dX0_cutPiece_175 : decode cX0_cutPiece 175 = .ok (.aload_n 0, 1) := by decide +kernel
theorem dX0_cutPiece_176 : decode cX0_cutPiece 176 = .ok (.iload_n 2, 1) := by decide +kernel
theorem dX0_cutPiece_177 : decode cX0_cutPiece 177 = .ok (.iload_n 1, 1) := by decide +kernel
theorem dX0_cutPiece_178 : decode cX0_cutPiece 178 = .ok (.invokevirtual 145, 3) := by decide +kernel
theorem dX0_cutPiece_181 : decode cX0_cutPiece 181 = .ok (.invokevirtual 139, 3) := by decide +kernel
theorem dX0_cutPiece_184 : decode cX0_cutPiece 184 = .ok (.ireturn, 1) := by decide +kernel
theorem dX0_cutPiece_185 : decode cX0_cutPiece 185 = .ok (.aload_n 0, 1) := by decide +kernel
theorem dX0_cutPiece_186 : decode cX0_cutPiece 186 = .ok (.iload_n 1, 1) := by decide +kernel
theorem dX0_cutPiece_187 : decode cX0_cutPiece 187 = .ok (.iload_n 3, 1) := by decide +kernel
theorem dX0_cutPiece_188 : decode cX0_cutPiece 188 = .ok (.iload_n 2, 1) := by decide +kernel
theorem dX0_cutPiece_189 : decode cX0_cutPiece 189 = .ok (.invokevirtual 148, 3) := by decide +kernel
theorem dX0_cutPiece_192 : decode cX0_cutPiece 192 = .ok (.ireturn, 1) := by decide +kernel
theorem dX0_passBlank_0 : decode cX0_passBlank 0 = .ok (.aload_n 0, 1) := by decide +kernel
theorem dX0_passBlank_1 : decode cX0_passBlank 1 = .ok (.iload_n 1, 1) := by decide +kernel
theorem dX0_passBlank_2 : decode cX0_passBlank 2 = .ok (.invokevirtual 45, 3) := by decide +kernel
theorem dX0_passBlank_5 : decode cX0_passBlank 5 = .ok (.pop, 1) := by decide +kernel
theorem dX0_passBlank_6 : decode cX0_passBlank 6 = .ok (.aload_n 0, 1) := by decide +kernel
theorem dX0_passBlank_7 : decode cX0_passBlank 7 = .ok (.iconst 1, 1) := by decide +kernel
theorem dX0_passBlank_8 : decode cX0_passBlank 8 = .ok (.putfield 93, 3) := by decide +kernel
theorem dX0_passBlank_11 : decode cX0_passBlank 11 = .ok (.iconst 0, 1) := by decide +kernel
theorem dX0_passBlank_12 : decode cX0_passBlank 12 = .ok (.ireturn, 1) := by decide +kernel
theorem dX0_passComment_0 : decode cX0_passComment 0 = .ok (.aload_n 0, 1) := by decide +kernel
theorem dX0_passComment_1 : decode cX0_passComment 1 = .ok (.iload_n 1, 1) := by decide +kernel
theorem dX0_passComment_2 : decode cX0_passComment 2 = .ok (.invokevirtual 152, 3) := by decide +kernel
theorem dX0_passComment_5 : decode cX0_passComment 5 = .ok (.istore_n 2, 1) := by decide +kernel
theorem dX0_passComment_6 : decode cX0_passComment 6 = .ok (.iload_n 2, 1) := by decide +kernel
theorem dX0_passComment_7 : decode cX0_passComment 7 = .ok (.iconst (-1), 1) := by decide +kernel
theorem dX0_passComment_8 : decode cX0_passComment 8 = .ok (.if_icmp .ne 13, 3) := by decide +kernel
theorem dX0_passComment_11 : decode cX0_passComment 11 = .ok (.aload_n 0, 1) := by decide +kernel
theorem dX0_passComment_12 : decode cX0_passComment 12 = .ok (.aload_n 0, 1) := by decide +kernel
theorem dX0_passComment_13 : decode cX0_passComment 13 = .ok (.getfield 68, 3) := by decide +kernel
theorem dX0_passComment_16 : decode cX0_passComment 16 = .ok (.iconst 1, 1) := by decide +kernel
theorem dX0_passComment_17 : decode cX0_passComment 17 = .ok (.invokevirtual 105, 3) := by decide +kernel
theorem dX0_passComment_20 : decode cX0_passComment 20 = .ok (.ireturn, 1) := by decide +kernel
theorem dX0_passComment_21 : decode cX0_passComment 21 = .ok (.aload_n 0, 1) := by decide +kernel
theorem dX0_passComment_22 : decode cX0_passComment 22 = .ok (.iload_n 2, 1) := by decide +kernel
theorem dX0_passComment_23 : decode cX0_passComment 23 = .ok (.invokevirtual 112, 3) := by decide +kernel
theorem dX0_passComment_26 : decode cX0_passComment 26 = .ok (.ireturn, 1) := by decide +kernel
theorem dX0_cutQuote_0 : decode cX0_cutQuote 0 = .ok (.aload_n 0, 1) := by decide +kernel
theorem dX0_cutQuote_1 : decode cX0_cutQuote 1 = .ok (.aload_n 0, 1) := by decide +kernel
theorem dX0_cutQuote_2 : decode cX0_cutQuote 2 = .ok (.getfield 39, 3) := by decide +kernel
theorem dX0_cutQuote_5 : decode cX0_cutQuote 5 = .ok (.iload_n 1, 1) := by decide +kernel
theorem dX0_cutQuote_6 : decode cX0_cutQuote 6 = .ok (.invokevirtual 155, 3) := by decide +kernel
theorem dX0_cutQuote_9 : decode cX0_cutQuote 9 = .ok (.istore_n 2, 1) := by decide +kernel
theorem dX0_cutQuote_10 : decode cX0_cutQuote 10 = .ok (.iload_n 2, 1) := by decide +kernel
theorem dX0_cutQuote_11 : decode cX0_cutQuote 11 = .ok (.iconst (-1), 1) := by decide +kernel
theorem dX0_cutQuote_12 : decode cX0_cutQuote 12 = .ok (.if_icmp .eq 13, 3) := by decide +kernel
theorem dX0_cutQuote_15 : decode cX0_cutQuote 15 = .ok (.aload_n 0, 1) := by decide +kernel
theorem dX0_cutQuote_16 : decode cX0_cutQuote 16 = .ok (.iload_n 1, 1) := by decide +kernel
theorem dX0_cutQuote_17 : decode cX0_cutQuote 17 = .ok (.invokestatic 158, 3) := by decide +kernel
theorem dX0_cutQuote_20 : decode cX0_cutQuote 20 = .ok (.iload_n 2, 1) := by decide +kernel
theorem dX0_cutQuote_21 : decode cX0_cutQuote 21 = .ok (.invokevirtual 139, 3) := by decide +kernel
theorem dX0_cutQuote_24 : decode cX0_cutQuote 24 = .ok (.ireturn, 1) := by decide +kernel
theorem dX0_cutQuote_25 : decode cX0_cutQuote 25 = .ok (.aload_n 0, 1) := by decide +kernel
theorem dX0_cutQuote_26 : decode cX0_cutQuote 26 = .ok (.getfield 85, 3) := by decide +kernel
theorem dX0_cutQuote_29 : decode cX0_cutQuote 29 = .ok (.sipush 1000, 3) := by decide +kernel
theorem dX0_cutQuote_32 : decode cX0_cutQuote 32 = .ok (.if_icmp .lt 14, 3) := by decide +kernel
theorem dX0_cutQuote_35 : decode cX0_cutQuote 35 = .ok (.aload_n 0, 1) := by decide +kernel
theorem dX0_cutQuote_36 : decode cX0_cutQuote 36 = .ok (.aload_n 0, 1) := by decide +kernel
theorem dX0_cutQuote_37 : decode cX0_cutQuote 37 = .ok (.getfield 68, 3) := by decide +kernel
theorem dX0_cutQuote_40 : decode cX0_cutQuote 40 = .ok (.bipush 21, 2) := by decide +kernel
theorem dX0_cutQuote_42 : decode cX0_cutQuote 42 = .ok (.invokevirtual 105, 3) := by decide +kernel
theorem dX0_cutQuote_45 : decode cX0_cutQuote 45 = .ok (.ireturn, 1) := by decide +kernel
theorem dX0_cutQuote_46 : decode cX0_cutQuote 46 = .ok (.aload_n 0, 1) := by decide +kernel
theorem dX0_cutQuote_47 : decode cX0_cutQuote 47 = .ok (.dup, 1) := by decide +kernel
theorem dX0_cutQuote_48 : decode cX0_cutQuote 48 = .ok (.getfield 85, 3) := by decide +kernel
theorem dX0_cutQuote_51 : decode cX0_cutQuote 51 = .ok (.iconst 1, 1) := by decide +kernel
theorem dX0_cutQuote_52 : decode cX0_cutQuote 52 = .ok (.iadd, 1) := by decide +kernel
theorem dX0_cutQuote_53 : decode cX0_cutQuote 53 = .ok (.putfield 85, 3) := by decide +kernel
theorem dX0_cutQuote_56 : decode cX0_cutQuote 56 = .ok (.aload_n 0, 1) := by decide +kernel
theorem dX0_cutQuote_57 : decode cX0_cutQuote 57 = .ok (.bipush 6, 2) := by decide +kernel
theorem dX0_cutQuote_59 : decode cX0_cutQuote 59 = .ok (.aload_n 0, 1) := by decide +kernel
theorem dX0_cutQuote_60 : decode cX0_cutQuote 60 = .ok (.aload_n 0, 1) := by decide +kernel
theorem dX0_cutQuote_61 : decode cX0_cutQuote 61 = .ok (.getfield 39, 3) := by decide +kernel
theorem dX0_cutQuote_64 : decode cX0_cutQuote 64 = .ok (.iconst 1, 1) := by decide +kernel
theorem dX0_cutQuote_65 : decode cX0_cutQuote 65 = .ok (.iadd, 1) := by decide +kernel
theorem dX0_cutQuote_66 : decode cX0_cutQuote 66 = .ok (.invokevirtual 42, 3) := by decide +kernel
theorem dX0_cutQuote_69 : decode cX0_cutQuote 69 = .ok (.invokevirtual 139, 3) := by decide +kernel
theorem dX0_cutQuote_72 : decode cX0_cutQuote 72 = .ok (.ireturn, 1) := by decide +kernel
theorem dX0_cutWide_0 : decode cX0_cutWide 0 = .ok (.aload_n 0, 1) := by decide +kernel
theorem dX0_cutWide_1 : decode cX0_cutWide 1 = .ok (.iload_n 1, 1) := by decide +kernel
theorem dX0_cutWide_2 : decode cX0_cutWide 2 = .ok (.iload_n 2, 1) := by decide +kernel
theorem dX0_cutWide_3 : decode cX0_cutWide 3 = .ok (.invokevirtual 155, 3) := by decide +kernel
theorem dX0_cutWide_6 : decode cX0_cutWide 6 = .ok (.istore_n 3, 1) := by decide +kernel
theorem dX0_cutWide_7 : decode cX0_cutWide 7 = .ok (.iload_n 3, 1) := by decide +kernel
theorem dX0_cutWide_8 : decode cX0_cutWide 8 = .ok (.iconst (-1), 1) := by decide +kernel
theorem dX0_cutWide_9 : decode cX0_cutWide 9 = .ok (.if_icmp .ne 10, 3) := by decide +kernel
theorem dX0_cutWide_12 : decode cX0_cutWide 12 = .ok (.aload_n 0, 1) := by decide +kernel
theorem dX0_cutWide_13 : decode cX0_cutWide 13 = .ok (.iconst 1, 1) := by decide +kernel
theorem dX0_cutWide_14 : decode cX0_cutWide 14 = .ok (.iload_n 1, 1) := by decide +kernel
theorem dX0_cutWide_15 : decode cX0_cutWide 15 = .ok (.invokevirtual 139, 3) := by decide +kernel
theorem dX0_cutWide_18 : decode cX0_cutWide 18 = .ok (.ireturn, 1) := by decide +kernel
theorem dX0_cutWide_19 : decode cX0_cutWide 19 = .ok (.aload_n 0, 1) := by decide +kernel
theorem dX0_cutWide_20 : decode cX0_cutWide 20 = .ok (.iload_n 2, 1) := by decide +kernel
theorem dX0_cutWide_21 : decode cX0_cutWide 21 = .ok (.invokestatic 158, 3) := by decide +kernel
theorem dX0_cutWide_24 : decode cX0_cutWide 24 = .ok (.iload_n 3, 1) := by decide +kernel
theorem dX0_cutWide_25 : decode cX0_cutWide 25 = .ok (.invokevirtual 139, 3) := by decide +kernel
theorem dX0_cutWide_28 : decode cX0_cutWide 28 = .ok (.ireturn, 1) := by decide +kernel
theorem dX0_cutSign_0 : decode cX0_cutSign 0 = .ok (.aload_n 0, 1) := by decide +kernel
theorem dX0_cutSign_1 : decode cX0_cutSign 1 = .ok (.iload_n 3, 1) := by decide +kernel
theorem dX0_cutSign_2 : decode cX0_cutSign 2 = .ok (.iconst 1, 1) := by decide +kernel
theorem dX0_cutSign_3 : decode cX0_cutSign 3 = .ok (.iadd, 1) := by decide +kernel
theorem dX0_cutSign_4 : decode cX0_cutSign 4 = .ok (.invokevirtual 42, 3) := by decide +kernel
theorem dX0_cutSign_7 : decode cX0_cutSign 7 = .ok (.istore 4, 2) := by decide +kernel
theorem dX0_cutSign_9 : decode cX0_cutSign 9 = .ok (.aload_n 0, 1) := by decide +kernel
theorem dX0_cutSign_10 : decode cX0_cutSign 10 = .ok (.iload 4, 2) := by decide +kernel
theorem dX0_cutSign_12 : decode cX0_cutSign 12 = .ok (.invokevirtual 28, 3) := by decide +kernel
theorem dX0_cutSign_15 : decode cX0_cutSign 15 = .ok (.istore 5, 2) := by decide +kernel
theorem dX0_cutSign_17 : decode cX0_cutSign 17 = .ok (.ldc 161, 2) := by decide +kernel
theorem dX0_cutSign_19 : decode cX0_cutSign 19 = .ok (.iconst 3, 1) := by decide +kernel
theorem dX0_cutSign_20 : decode cX0_cutSign 20 = .ok (.iload_n 1, 1) := by decide +kernel
theorem dX0_cutSign_21 : decode cX0_cutSign 21 = .ok (.iload_n 2, 1) := by decide +kernel
theorem dX0_cutSign_22 : decode cX0_cutSign 22 = .ok (.iload 5, 2) := by decide +kernel
theorem dX0_cutSign_24 : decode cX0_cutSign 24 = .ok (.invokestatic 163, 3) := by decide +kernel
theorem dX0_cutSign_27 : decode cX0_cutSign 27 = .ok (.ifCond .eq 17, 3) := by decide +kernel
theorem dX0_cutSign_30 : decode cX0_cutSign 30 = .ok (.aload_n 0, 1) := by decide +kernel
theorem dX0_cutSign_31 : decode cX0_cutSign 31 = .ok (.iconst 5, 1) := by decide +kernel
theorem dX0_cutSign_32 : decode cX0_cutSign 32 = .ok (.aload_n 0, 1) := by decide +kernel
theorem dX0_cutSign_33 : decode cX0_cutSign 33 = .ok (.iload 4, 2) := by decide +kernel
theorem dX0_cutSign_35 : decode cX0_cutSign 35 = .ok (.iconst 1, 1) := by decide +kernel
theorem dX0_cutSign_36 : decode cX0_cutSign 36 = .ok (.iadd, 1) := by decide +kernel
theorem dX0_cutSign_37 : decode cX0_cutSign 37 = .ok (.invokevirtual 42, 3) := by decide +kernel
theorem dX0_cutSign_40 : decode cX0_cutSign 40 = .ok (.invokevirtual 139, 3) := by decide +kernel
theorem dX0_cutSign_43 : decode cX0_cutSign 43 = .ok (.ireturn, 1) := by decide +kernel
theorem dX0_cutSign_44 : decode cX0_cutSign 44 = .ok (.ldc 167, 2) := by decide +kernel
theorem dX0_cutSign_46 : decode cX0_cutSign 46 = .ok (.iconst 2, 1) := by decide +kernel
theorem dX0_cutSign_47 : decode cX0_cutSign 47 = .ok (.iload_n 1, 1) := by decide +kernel
theorem dX0_cutSign_48 : decode cX0_cutSign 48 = .ok (.iload_n 2, 1) := by decide +kernel
theorem dX0_cutSign_49 : decode cX0_cutSign 49 = .ok (.iload 5, 2) := by decide +kernel
theorem dX0_cutSign_51 : decode cX0_cutSign 51 = .ok (.invokestatic 163, 3) := by decide +kernel
theorem dX0_cutSign_54 : decode cX0_cutSign 54 = .ok (.ifCond .eq 11, 3) := by decide +kernel
theorem dX0_cutSign_57 : decode cX0_cutSign 57 = .ok (.aload_n 0, 1) := by decide +kernel
theorem dX0_cutSign_58 : decode cX0_cutSign 58 = .ok (.iconst 5, 1) := by decide +kernel
theorem dX0_cutSign_59 : decode cX0_cutSign 59 = .ok (.iload 4, 2) := by decide +kernel
theorem dX0_cutSign_61 : decode cX0_cutSign 61 = .ok (.invokevirtual 139, 3) := by decide +kernel
theorem dX0_cutSign_64 : decode cX0_cutSign 64 = .ok (.ireturn, 1) := by decide +kernel
theorem dX0_cutSign_65 : decode cX0_cutSign 65 = .ok (.ldc 169, 2) := by decide +kernel
theorem dX0_cutSign_67 : decode cX0_cutSign 67 = .ok (.iconst 1, 1) := by decide +kernel
theorem dX0_cutSign_68 : decode cX0_cutSign 68 = .ok (.iload_n 1, 1) := by decide +kernel
theorem dX0_cutSign_69 : decode cX0_cutSign 69 = .ok (.iload_n 2, 1) := by decide +kernel
theorem dX0_cutSign_70 : decode cX0_cutSign 70 = .ok (.iload 5, 2) := by decide +kernel
theorem dX0_cutSign_72 : decode cX0_cutSign 72 = .ok (.invokestatic 163, 3) := by decide +kernel
theorem dX0_cutSign_75 : decode cX0_cutSign 75 = .ok (.istore 6, 2) := by decide +kernel
theorem dX0_cutSign_77 : decode cX0_cutSign 77 = .ok (.aload_n 0, 1) := by decide +kernel
theorem dX0_cutSign_78 : decode cX0_cutSign 78 = .ok (.iload 6, 2) := by decide +kernel
theorem dX0_cutSign_80 : decode cX0_cutSign 80 = .ok (.ifCond .eq 7, 3) := by decide +kernel
theorem dX0_cutSign_83 : decode cX0_cutSign 83 = .ok (.iconst 5, 1) := by decide +kernel
theorem dX0_cutSign_84 : decode cX0_cutSign 84 = .ok (.goto 5, 3) := by decide +kernel
theorem dX0_cutSign_87 : decode cX0_cutSign 87 = .ok (.bipush 6, 2) := by decide +kernel
theorem dX0_cutSign_89 : decode cX0_cutSign 89 = .ok (.iload_n 3, 1) := by decide +kernel
theorem dX0_cutSign_90 : decode cX0_cutSign 90 = .ok (.invokevirtual 139, 3) := by decide +kernel
theorem dX0_cutSign_93 : decode cX0_cutSign 93 = .ok (.ireturn, 1) := by decide +kernel
theorem dX0_addToken_0 : decode cX0_addToken 0 = .ok (.aload_n 0, 1) := by decide +kernel
theorem dX0_addToken_1 : decode cX0_addToken 1 = .ok (.getfield 39, 3) := by decide +kernel
theorem dX0_addToken_4 : decode cX0_addToken 4 = .ok (.istore_n 3, 1) := by decide +kernel
theorem dX0_addToken_5 : decode cX0_addToken 5 = .ok (.aload_n 0, 1) := by decide +kernel
theorem dX0_addToken_6 : decode cX0_addToken 6 = .ok (.getfield 68, 3) := by decide +kernel
theorem dX0_addToken_9 : decode cX0_addToken 9 = .ok (.istore 4, 2) := by decide +kernel
theorem dX0_addToken_11 : decode cX0_addToken 11 = .ok (.aload_n 0, 1) := by decide +kernel
theorem dX0_addToken_12 : decode cX0_addToken 12 = .ok (.iload_n 2, 1) := by decide +kernel
theorem dX0_addToken_13 : decode cX0_addToken 13 = .ok (.invokevirtual 45, 3) := by decide +kernel
theorem dX0_addToken_16 : decode cX0_addToken 16 = .ok (.istore 5, 2) := by decide +kernel
theorem dX0_addToken_18 : decode cX0_addToken 18 = .ok (.aload_n 0, 1) := by decide +kernel
theorem dX0_addToken_19 : decode cX0_addToken 19 = .ok (.getfield 90, 3) := by decide +kernel
theorem dX0_addToken_22 : decode cX0_addToken 22 = .ok (.ifCond .ne 9, 3) := by decide +kernel
theorem dX0_addToken_25 : decode cX0_addToken 25 = .ok (.aload_n 0, 1) := by decide +kernel
theorem dX0_addToken_26 : decode cX0_addToken 26 = .ok (.iload 4, 2) := by decide +kernel
theorem dX0_addToken_28 : decode cX0_addToken 28 = .ok (.putfield 102, 3) := by decide +kernel
theorem dX0_addToken_31 : decode cX0_addToken 31 = .ok (.aload_n 0, 1) := by decide +kernel
theorem dX0_addToken_32 : decode cX0_addToken 32 = .ok (.getfield 90, 3) := by decide +kernel
theorem dX0_addToken_35 : decode cX0_addToken 35 = .ok (.ifCond .lt 65, 3) := by decide +kernel
theorem dX0_addToken_38 : decode cX0_addToken 38 = .ok (.aload_n 0, 1) := by decide +kernel
theorem dX0_addToken_39 : decode cX0_addToken 39 = .ok (.getfield 90, 3) := by decide +kernel
theorem dX0_addToken_42 : decode cX0_addToken 42 = .ok (.aload_n 0, 1) := by decide +kernel
theorem dX0_addToken_43 : decode cX0_addToken 43 = .ok (.getfield 13, 3) := by decide +kernel
theorem dX0_addToken_46 : decode cX0_addToken 46 = .ok (.arraylength, 1) := by decide +kernel
theorem dX0_addToken_47 : decode cX0_addToken 47 = .ok (.if_icmp .ge 53, 3) := by decide +kernel
theorem dX0_addToken_50 : decode cX0_addToken 50 = .ok (.aload_n 0, 1) := by decide +kernel
theorem dX0_addToken_51 : decode cX0_addToken 51 = .ok (.getfield 13, 3) := by decide +kernel
theorem dX0_addToken_54 : decode cX0_addToken 54 = .ok (.aload_n 0, 1) := by decide +kernel
theorem dX0_addToken_55 : decode cX0_addToken 55 = .ok (.getfield 90, 3) := by decide +kernel
theorem dX0_addToken_58 : decode cX0_addToken 58 = .ok (.iload_n 3, 1) := by decide +kernel
theorem dX0_addToken_59 : decode cX0_addToken 59 = .ok (.i2l, 1) := by decide +kernel
theorem dX0_addToken_60 : decode cX0_addToken 60 = .ok (.iload 5, 2) := by decide +kernel
theorem dX0_addToken_62 : decode cX0_addToken 62 = .ok (.i2l, 1) := by decide +kernel
theorem dX0_addToken_63 : decode cX0_addToken 63 = .ok (.bipush 16, 2) := by decide +kernel
theorem dX0_addToken_65 : decode cX0_addToken 65 = .ok (.lshl, 1) := by decide +kernel
theorem dX0_addToken_66 : decode cX0_addToken 66 = .ok (.lor, 1) := by decide +kernel
theorem dX0_addToken_67 : decode cX0_addToken 67 = .ok (.iload 4, 2) := by decide +kernel
theorem dX0_addToken_69 : decode cX0_addToken 69 = .ok (.i2l, 1) := by decide +kernel
theorem dX0_addToken_70 : decode cX0_addToken 70 = .ok (.bipush 32, 2) := by decide +kernel
theorem dX0_addToken_72 : decode cX0_addToken 72 = .ok (.lshl, 1) := by decide +kernel
theorem dX0_addToken_73 : decode cX0_addToken 73 = .ok (.lor, 1) := by decide +kernel
theorem dX0_addToken_74 : decode cX0_addToken 74 = .ok (.iload_n 1, 1) := by decide +kernel
theorem dX0_addToken_75 : decode cX0_addToken 75 = .ok (.i2l, 1) := by decide +kernel
theorem dX0_addToken_76 : decode cX0_addToken 76 = .ok (.bipush 48, 2) := by decide +kernel
theorem dX0_addToken_78 : decode cX0_addToken 78 = .ok (.lshl, 1) := by decide +kernel
theorem dX0_addToken_79 : decode cX0_addToken 79 = .ok (.lor, 1) := by decide +kernel
theorem dX0_addToken_80 : decode cX0_addToken 80 = .ok (.aload_n 0, 1) := by decide +kernel
theorem dX0_addToken_81 : decode cX0_addToken 81 = .ok (.getfield 93, 3) := by decide +kernel
theorem dX0_addToken_84 : decode cX0_addToken 84 = .ok (.ifCond .eq 7, 3) := by decide +kernel
theorem dX0_addToken_87 : decode cX0_addToken 87 = .ok (.lconst 1, 1) := by decide +kernel
theorem dX0_addToken_88 : decode cX0_addToken 88 = .ok (.goto 4, 3) := by decide +kernel
theorem dX0_addToken_91 : decode cX0_addToken 91 = .ok (.lconst 0, 1) := by decide +kernel
theorem dX0_addToken_92 : decode cX0_addToken 92 = .ok (.bipush 52, 2) := by decide +kernel
theorem dX0_addToken_94 : decode cX0_addToken 94 = .ok (.lshl, 1) := by decide +kernel
theorem dX0_addToken_95 : decode cX0_addToken 95 = .ok (.lor, 1) := by decide +kernel
theorem dX0_addToken_96 : decode cX0_addToken 96 = .ok (.lastore, 1) := by decide +kernel
theorem dX0_addToken_97 : decode cX0_addToken 97 = .ok (.goto 19, 3) := by decide +kernel
theorem dX0_addToken_100 : decode cX0_addToken 100 = .ok (.aload_n 0, 1) := by decide +kernel
theorem dX0_addToken_101 : decode cX0_addToken 101 = .ok (.getfield 90, 3) := by decide +kernel
theorem dX0_addToken_104 : decode cX0_addToken 104 = .ok (.sipush 8000, 3) := by decide +kernel
theorem dX0_addToken_107 : decode cX0_addToken 107 = .ok (.if_icmp .ne 9, 3) := by decide +kernel
theorem dX0_addToken_110 : decode cX0_addToken 110 = .ok (.aload_n 0, 1) := by decide +kernel
theorem dX0_addToken_111 : decode cX0_addToken 111 = .ok (.iload 4, 2) := by decide +kernel
theorem dX0_addToken_113 : decode cX0_addToken 113 = .ok (.putfield 109, 3) := by decide +kernel
theorem dX0_addToken_116 : decode cX0_addToken 116 = .ok (.aload_n 0, 1) := by decide +kernel
theorem dX0_addToken_117 : decode cX0_addToken 117 = .ok (.dup, 1) := by decide +kernel
theorem dX0_addToken_118 : decode cX0_addToken 118 = .ok (.getfield 90, 3) := by decide +kernel
theorem dX0_addToken_121 : decode cX0_addToken 121 = .ok (.iconst 1, 1) := by decide +kernel
theorem dX0_addToken_122 : decode cX0_addToken 122 = .ok (.iadd, 1) := by decide +kernel
theorem dX0_addToken_123 : decode cX0_addToken 123 = .ok (.putfield 90, 3) := by decide +kernel
theorem dX0_addToken_126 : decode cX0_addToken 126 = .ok (.aload_n 0, 1) := by decide +kernel
theorem dX0_addToken_127 : decode cX0_addToken 127 = .ok (.iconst 0, 1) := by decide +kernel
theorem dX0_addToken_128 : decode cX0_addToken 128 = .ok (.putfield 93, 3) := by decide +kernel
theorem dX0_addToken_131 : decode cX0_addToken 131 = .ok (.iconst 0, 1) := by decide +kernel
theorem dX0_addToken_132 : decode cX0_addToken 132 = .ok (.ireturn, 1) := by decide +kernel
theorem dX0_commentEnd_0 : decode cX0_commentEnd 0 = .ok (.iload_n 1, 1) := by decide +kernel
theorem dX0_commentEnd_1 : decode cX0_commentEnd 1 = .ok (.istore_n 2, 1) := by decide +kernel
theorem dX0_commentEnd_2 : decode cX0_commentEnd 2 = .ok (.iconst 0, 1) := by decide +kernel
theorem dX0_commentEnd_3 : decode cX0_commentEnd 3 = .ok (.istore_n 3, 1) := by decide +kernel
theorem dX0_commentEnd_4 : decode cX0_commentEnd 4 = .ok (.iload_n 2, 1) := by decide +kernel
theorem dX0_commentEnd_5 : decode cX0_commentEnd 5 = .ok (.aload_n 0, 1) := by decide +kernel
theorem dX0_commentEnd_6 : decode cX0_commentEnd 6 = .ok (.getfield 19, 3) := by decide +kernel
theorem dX0_commentEnd_9 : decode cX0_commentEnd 9 = .ok (.if_icmp .ge 47, 3) := by decide +kernel
theorem dX0_commentEnd_12 : decode cX0_commentEnd 12 = .ok (.aload_n 0, 1) := by decide +kernel
theorem dX0_commentEnd_13 : decode cX0_commentEnd 13 = .ok (.iload_n 2, 1) := by decide +kernel
theorem dX0_commentEnd_14 : decode cX0_commentEnd 14 = .ok (.invokevirtual 28, 3) := by decide +kernel
theorem dX0_commentEnd_17 : decode cX0_commentEnd 17 = .ok (.istore 4, 2) := by decide +kernel
theorem dX0_commentEnd_19 : decode cX0_commentEnd 19 = .ok (.aload_n 0, 1) := by decide +kernel
theorem dX0_commentEnd_20 : decode cX0_commentEnd 20 = .ok (.iload_n 2, 1) := by decide +kernel
theorem dX0_commentEnd_21 : decode cX0_commentEnd 21 = .ok (.iconst 1, 1) := by decide +kernel
theorem dX0_commentEnd_22 : decode cX0_commentEnd 22 = .ok (.iadd, 1) := by decide +kernel
theorem dX0_commentEnd_23 : decode cX0_commentEnd 23 = .ok (.invokevirtual 42, 3) := by decide +kernel
theorem dX0_commentEnd_26 : decode cX0_commentEnd 26 = .ok (.istore_n 2, 1) := by decide +kernel
theorem dX0_commentEnd_27 : decode cX0_commentEnd 27 = .ok (.iload_n 3, 1) := by decide +kernel
theorem dX0_commentEnd_28 : decode cX0_commentEnd 28 = .ok (.ifCond .eq 12, 3) := by decide +kernel
theorem dX0_commentEnd_31 : decode cX0_commentEnd 31 = .ok (.iload 4, 2) := by decide +kernel
theorem dX0_commentEnd_33 : decode cX0_commentEnd 33 = .ok (.bipush 47, 2) := by decide +kernel
theorem dX0_commentEnd_35 : decode cX0_commentEnd 35 = .ok (.if_icmp .ne 5, 3) := by decide +kernel
theorem dX0_commentEnd_38 : decode cX0_commentEnd 38 = .ok (.iload_n 2, 1) := by decide +kernel
theorem dX0_commentEnd_39 : decode cX0_commentEnd 39 = .ok (.ireturn, 1) := by decide +kernel
theorem dX0_commentEnd_40 : decode cX0_commentEnd 40 = .ok (.iload 4, 2) := by decide +kernel
theorem dX0_commentEnd_42 : decode cX0_commentEnd 42 = .ok (.bipush 42, 2) := by decide +kernel
theorem dX0_commentEnd_44 : decode cX0_commentEnd 44 = .ok (.if_icmp .ne 7, 3) := by decide +kernel
theorem dX0_commentEnd_47 : decode cX0_commentEnd 47 = .ok (.iconst 1, 1) := by decide +kernel
theorem dX0_commentEnd_48 : decode cX0_commentEnd 48 = .ok (.goto 4, 3) := by decide +kernel
theorem dX0_commentEnd_51 : decode cX0_commentEnd 51 = .ok (.iconst 0, 1) := by decide +kernel
theorem dX0_commentEnd_52 : decode cX0_commentEnd 52 = .ok (.istore_n 3, 1) := by decide +kernel
theorem dX0_commentEnd_53 : decode cX0_commentEnd 53 = .ok (.goto (-49), 3) := by decide +kernel
theorem dX0_commentEnd_56 : decode cX0_commentEnd 56 = .ok (.iconst (-1), 1) := by decide +kernel
theorem dX0_commentEnd_57 : decode cX0_commentEnd 57 = .ok (.ireturn, 1) := by decide +kernel
theorem dX0_lineEnd_0 : decode cX0_lineEnd 0 = .ok (.iload_n 1, 1) := by decide +kernel
theorem dX0_lineEnd_1 : decode cX0_lineEnd 1 = .ok (.istore_n 2, 1) := by decide +kernel
theorem dX0_lineEnd_2 : decode cX0_lineEnd 2 = .ok (.iload_n 2, 1) := by decide +kernel
theorem dX0_lineEnd_3 : decode cX0_lineEnd 3 = .ok (.aload_n 0, 1) := by decide +kernel
theorem dX0_lineEnd_4 : decode cX0_lineEnd 4 = .ok (.getfield 19, 3) := by decide +kernel
theorem dX0_lineEnd_7 : decode cX0_lineEnd 7 = .ok (.if_icmp .ge 24, 3) := by decide +kernel
theorem dX0_lineEnd_10 : decode cX0_lineEnd 10 = .ok (.aload_n 0, 1) := by decide +kernel
theorem dX0_lineEnd_11 : decode cX0_lineEnd 11 = .ok (.iload_n 2, 1) := by decide +kernel
theorem dX0_lineEnd_12 : decode cX0_lineEnd 12 = .ok (.invokevirtual 28, 3) := by decide +kernel
theorem dX0_lineEnd_15 : decode cX0_lineEnd 15 = .ok (.bipush 10, 2) := by decide +kernel
theorem dX0_lineEnd_17 : decode cX0_lineEnd 17 = .ok (.if_icmp .eq 14, 3) := by decide +kernel
theorem dX0_lineEnd_20 : decode cX0_lineEnd 20 = .ok (.aload_n 0, 1) := by decide +kernel
theorem dX0_lineEnd_21 : decode cX0_lineEnd 21 = .ok (.iload_n 2, 1) := by decide +kernel
theorem dX0_lineEnd_22 : decode cX0_lineEnd 22 = .ok (.iconst 1, 1) := by decide +kernel
theorem dX0_lineEnd_23 : decode cX0_lineEnd 23 = .ok (.iadd, 1) := by decide +kernel
theorem dX0_lineEnd_24 : decode cX0_lineEnd 24 = .ok (.invokevirtual 42, 3) := by decide +kernel
theorem dX0_lineEnd_27 : decode cX0_lineEnd 27 = .ok (.istore_n 2, 1) := by decide +kernel
theorem dX0_lineEnd_28 : decode cX0_lineEnd 28 = .ok (.goto (-26), 3) := by decide +kernel
theorem dX0_lineEnd_31 : decode cX0_lineEnd 31 = .ok (.iload_n 2, 1) := by decide +kernel
theorem dX0_lineEnd_32 : decode cX0_lineEnd 32 = .ok (.ireturn, 1) := by decide +kernel
theorem dX0_quoteEnd_0 : decode cX0_quoteEnd 0 = .ok (.iload_n 2, 1) := by decide +kernel
theorem dX0_quoteEnd_1 : decode cX0_quoteEnd 1 = .ok (.bipush 34, 2) := by decide +kernel
theorem dX0_quoteEnd_3 : decode cX0_quoteEnd 3 = .ok (.if_icmp .ne 7, 3) := by decide +kernel
theorem dX0_quoteEnd_6 : decode cX0_quoteEnd 6 = .ok (.iconst 1, 1) := by decide +kernel
theorem dX0_quoteEnd_7 : decode cX0_quoteEnd 7 = .ok (.goto 4, 3) := by decide +kernel
theorem dX0_quoteEnd_10 : decode cX0_quoteEnd 10 = .ok (.iconst 0, 1) := by decide +kernel
theorem dX0_quoteEnd_11 : decode cX0_quoteEnd 11 = .ok (.istore_n 3, 1) := by decide +kernel
theorem dX0_quoteEnd_12 : decode cX0_quoteEnd 12 = .ok (.iload_n 1, 1) := by decide +kernel
theorem dX0_quoteEnd_13 : decode cX0_quoteEnd 13 = .ok (.iload_n 3, 1) := by decide +kernel
theorem dX0_quoteEnd_14 : decode cX0_quoteEnd 14 = .ok (.ifCond .eq 10, 3) := by decide +kernel
theorem dX0_quoteEnd_17 : decode cX0_quoteEnd 17 = .ok (.aload_n 0, 1) := by decide +kernel
theorem dX0_quoteEnd_18 : decode cX0_quoteEnd 18 = .ok (.getfield 96, 3) := by decide +kernel
theorem dX0_quoteEnd_21 : decode cX0_quoteEnd 21 = .ok (.goto 7, 3) := by decide +kernel
theorem dX0_quoteEnd_24 : decode cX0_quoteEnd 24 = .ok (.aload_n 0, 1) := by decide +kernel
theorem dX0_quoteEnd_25 : decode cX0_quoteEnd 25 = .ok (.getfield 99, 3) := by decide +kernel
theorem dX0_quoteEnd_28 : decode cX0_quoteEnd 28 = .ok (.if_icmp .ge 5, 3) := by decide +kernel
theorem dX0_quoteEnd_31 : decode cX0_quoteEnd 31 = .ok (.iconst (-1), 1) := by decide +kernel
theorem dX0_quoteEnd_32 : decode cX0_quoteEnd 32 = .ok (.ireturn, 1) := by decide +kernel
theorem dX0_quoteEnd_33 : decode cX0_quoteEnd 33 = .ok (.aload_n 0, 1) := by decide +kernel
theorem dX0_quoteEnd_34 : decode cX0_quoteEnd 34 = .ok (.iload_n 1, 1) := by decide +kernel
theorem dX0_quoteEnd_35 : decode cX0_quoteEnd 35 = .ok (.iconst 1, 1) := by decide +kernel
theorem dX0_quoteEnd_36 : decode cX0_quoteEnd 36 = .ok (.iadd, 1) := by decide +kernel
theorem dX0_quoteEnd_37 : decode cX0_quoteEnd 37 = .ok (.invokevirtual 42, 3) := by decide +kernel
theorem dX0_quoteEnd_40 : decode cX0_quoteEnd 40 = .ok (.istore 4, 2) := by decide +kernel
theorem dX0_quoteEnd_42 : decode cX0_quoteEnd 42 = .ok (.iload 4, 2) := by decide +kernel
theorem dX0_quoteEnd_44 : decode cX0_quoteEnd 44 = .ok (.aload_n 0, 1) := by decide +kernel
theorem dX0_quoteEnd_45 : decode cX0_quoteEnd 45 = .ok (.getfield 19, 3) := by decide +kernel
theorem dX0_quoteEnd_48 : decode cX0_quoteEnd 48 = .ok (.if_icmp .ge 81, 3) := by decide +kernel
theorem dX0_quoteEnd_51 : decode cX0_quoteEnd 51 = .ok (.aload_n 0, 1) := by decide +kernel
theorem dX0_quoteEnd_52 : decode cX0_quoteEnd 52 = .ok (.iload 4, 2) := by decide +kernel
theorem dX0_quoteEnd_54 : decode cX0_quoteEnd 54 = .ok (.invokevirtual 28, 3) := by decide +kernel
theorem dX0_quoteEnd_57 : decode cX0_quoteEnd 57 = .ok (.bipush 10, 2) := by decide +kernel
theorem dX0_quoteEnd_59 : decode cX0_quoteEnd 59 = .ok (.if_icmp .eq 70, 3) := by decide +kernel
theorem dX0_quoteEnd_62 : decode cX0_quoteEnd 62 = .ok (.aload_n 0, 1) := by decide +kernel
theorem dX0_quoteEnd_63 : decode cX0_quoteEnd 63 = .ok (.iload 4, 2) := by decide +kernel
theorem dX0_quoteEnd_65 : decode cX0_quoteEnd 65 = .ok (.invokevirtual 28, 3) := by decide +kernel
theorem dX0_quoteEnd_68 : decode cX0_quoteEnd 68 = .ok (.istore 5, 2) := by decide +kernel
theorem dX0_quoteEnd_70 : decode cX0_quoteEnd 70 = .ok (.aload_n 0, 1) := by decide +kernel
theorem dX0_quoteEnd_71 : decode cX0_quoteEnd 71 = .ok (.iload 4, 2) := by decide +kernel
theorem dX0_quoteEnd_73 : decode cX0_quoteEnd 73 = .ok (.iconst 1, 1) := by decide +kernel
theorem dX0_quoteEnd_74 : decode cX0_quoteEnd 74 = .ok (.iadd, 1) := by decide +kernel
theorem dX0_quoteEnd_75 : decode cX0_quoteEnd 75 = .ok (.invokevirtual 42, 3) := by decide +kernel
theorem dX0_quoteEnd_78 : decode cX0_quoteEnd 78 = .ok (.istore 4, 2) := by decide +kernel
theorem dX0_quoteEnd_80 : decode cX0_quoteEnd 80 = .ok (.iload 5, 2) := by decide +kernel
theorem dX0_quoteEnd_82 : decode cX0_quoteEnd 82 = .ok (.iload_n 2, 1) := by decide +kernel
theorem dX0_quoteEnd_83 : decode cX0_quoteEnd 83 = .ok (.if_icmp .ne 6, 3) := by decide +kernel
theorem dX0_quoteEnd_86 : decode cX0_quoteEnd 86 = .ok (.iload 4, 2) := by decide +kernel
theorem dX0_quoteEnd_88 : decode cX0_quoteEnd 88 = .ok (.ireturn, 1) := by decide +kernel
theorem dX0_quoteEnd_89 : decode cX0_quoteEnd 89 = .ok (.iload 5, 2) := by decide +kernel
theorem dX0_quoteEnd_91 : decode cX0_quoteEnd 91 = .ok (.bipush 92, 2) := by decide +kernel
theorem dX0_quoteEnd_93 : decode cX0_quoteEnd 93 = .ok (.if_icmp .ne 33, 3) := by decide +kernel
theorem dX0_quoteEnd_96 : decode cX0_quoteEnd 96 = .ok (.iload 4, 2) := by decide +kernel
theorem dX0_quoteEnd_98 : decode cX0_quoteEnd 98 = .ok (.aload_n 0, 1) := by decide +kernel
theorem dX0_quoteEnd_99 : decode cX0_quoteEnd 99 = .ok (.getfield 19, 3) := by decide +kernel
theorem dX0_quoteEnd_102 : decode cX0_quoteEnd 102 = .ok (.if_icmp .ge 24, 3) := by decide +kernel
theorem dX0_quoteEnd_105 : decode cX0_quoteEnd 105 = .ok (.aload_n 0, 1) := by decide +kernel
theorem dX0_quoteEnd_106 : decode cX0_quoteEnd 106 = .ok (.iload 4, 2) := by decide +kernel
theorem dX0_quoteEnd_108 : decode cX0_quoteEnd 108 = .ok (.invokevirtual 28, 3) := by decide +kernel
theorem dX0_quoteEnd_111 : decode cX0_quoteEnd 111 = .ok (.bipush 10, 2) := by decide +kernel
theorem dX0_quoteEnd_113 : decode cX0_quoteEnd 113 = .ok (.if_icmp .eq 13, 3) := by decide +kernel
theorem dX0_quoteEnd_116 : decode cX0_quoteEnd 116 = .ok (.aload_n 0, 1) := by decide +kernel
theorem dX0_quoteEnd_117 : decode cX0_quoteEnd 117 = .ok (.iload 4, 2) := by decide +kernel
theorem dX0_quoteEnd_119 : decode cX0_quoteEnd 119 = .ok (.iconst 1, 1) := by decide +kernel
theorem dX0_quoteEnd_120 : decode cX0_quoteEnd 120 = .ok (.iadd, 1) := by decide +kernel
theorem dX0_quoteEnd_121 : decode cX0_quoteEnd 121 = .ok (.invokevirtual 42, 3) := by decide +kernel
theorem dX0_quoteEnd_124 : decode cX0_quoteEnd 124 = .ok (.istore 4, 2) := by decide +kernel
theorem dX0_quoteEnd_126 : decode cX0_quoteEnd 126 = .ok (.goto (-84), 3) := by decide +kernel
theorem dX0_quoteEnd_129 : decode cX0_quoteEnd 129 = .ok (.iload_n 3, 1) := by decide +kernel
theorem dX0_quoteEnd_130 : decode cX0_quoteEnd 130 = .ok (.ifCond .eq 12, 3) := by decide +kernel
theorem dX0_quoteEnd_133 : decode cX0_quoteEnd 133 = .ok (.aload_n 0, 1) := by decide +kernel
theorem dX0_quoteEnd_134 : decode cX0_quoteEnd 134 = .ok (.iload 4, 2) := by decide +kernel
theorem dX0_quoteEnd_136 : decode cX0_quoteEnd 136 = .ok (.putfield 96, 3) := by decide +kernel
theorem dX0_quoteEnd_139 : decode cX0_quoteEnd 139 = .ok (.goto 9, 3) := by decide +kernel
theorem dX0_quoteEnd_142 : decode cX0_quoteEnd 142 = .ok (.aload_n 0, 1) := by decide +kernel
theorem dX0_quoteEnd_143 : decode cX0_quoteEnd 143 = .ok (.iload 4, 2) := by decide +kernel
theorem dX0_quoteEnd_145 : decode cX0_quoteEnd 145 = .ok (.putfield 99, 3) := by decide +kernel
theorem dX0_quoteEnd_148 : decode cX0_quoteEnd 148 = .ok (.iconst (-1), 1) := by decide +kernel
theorem dX0_quoteEnd_149 : decode cX0_quoteEnd 149 = .ok (.ireturn, 1) := by decide +kernel
theorem dX0_nameEnd_0 : decode cX0_nameEnd 0 = .ok (.iload_n 1, 1) := by decide +kernel
theorem dX0_nameEnd_1 : decode cX0_nameEnd 1 = .ok (.istore_n 2, 1) := by decide +kernel
theorem dX0_nameEnd_2 : decode cX0_nameEnd 2 = .ok (.iload_n 2, 1) := by decide +kernel
theorem dX0_nameEnd_3 : decode cX0_nameEnd 3 = .ok (.aload_n 0, 1) := by decide +kernel
theorem dX0_nameEnd_4 : decode cX0_nameEnd 4 = .ok (.getfield 19, 3) := by decide +kernel
theorem dX0_nameEnd_7 : decode cX0_nameEnd 7 = .ok (.if_icmp .ge 36, 3) := by decide +kernel
theorem dX0_nameEnd_10 : decode cX0_nameEnd 10 = .ok (.aload_n 0, 1) := by decide +kernel
theorem dX0_nameEnd_11 : decode cX0_nameEnd 11 = .ok (.iload_n 2, 1) := by decide +kernel
theorem dX0_nameEnd_12 : decode cX0_nameEnd 12 = .ok (.invokevirtual 28, 3) := by decide +kernel
theorem dX0_nameEnd_15 : decode cX0_nameEnd 15 = .ok (.invokestatic 133, 3) := by decide +kernel
theorem dX0_nameEnd_18 : decode cX0_nameEnd 18 = .ok (.ifCond .ne 14, 3) := by decide +kernel
theorem dX0_nameEnd_21 : decode cX0_nameEnd 21 = .ok (.aload_n 0, 1) := by decide +kernel
theorem dX0_nameEnd_22 : decode cX0_nameEnd 22 = .ok (.iload_n 2, 1) := by decide +kernel
theorem dX0_nameEnd_23 : decode cX0_nameEnd 23 = .ok (.invokevirtual 28, 3) := by decide +kernel
theorem dX0_nameEnd_26 : decode cX0_nameEnd 26 = .ok (.invokestatic 142, 3) := by decide +kernel
theorem dX0_nameEnd_29 : decode cX0_nameEnd 29 = .ok (.ifCond .eq 14, 3) := by decide +kernel
theorem dX0_nameEnd_32 : decode cX0_nameEnd 32 = .ok (.aload_n 0, 1) := by decide +kernel
theorem dX0_nameEnd_33 : decode cX0_nameEnd 33 = .ok (.iload_n 2, 1) := by decide +kernel
theorem dX0_nameEnd_34 : decode cX0_nameEnd 34 = .ok (.iconst 1, 1) := by decide +kernel
theorem dX0_nameEnd_35 : decode cX0_nameEnd 35 = .ok (.iadd, 1) := by decide +kernel
theorem dX0_nameEnd_36 : decode cX0_nameEnd 36 = .ok (.invokevirtual 42, 3) := by decide +kernel
theorem dX0_nameEnd_39 : decode cX0_nameEnd 39 = .ok (.istore_n 2, 1) := by decide +kernel
theorem dX0_nameEnd_40 : decode cX0_nameEnd 40 = .ok (.goto (-38), 3) := by decide +kernel
theorem dX0_nameEnd_43 : decode cX0_nameEnd 43 = .ok (.iload_n 2, 1) := by decide +kernel
theorem dX0_nameEnd_44 : decode cX0_nameEnd 44 = .ok (.ireturn, 1) := by decide +kernel
theorem dX0_numberEnd_0 : decode cX0_numberEnd 0 = .ok (.iload_n 1, 1) := by decide +kernel
theorem dX0_numberEnd_1 : decode cX0_numberEnd 1 = .ok (.istore_n 3, 1) := by decide +kernel
theorem dX0_numberEnd_2 : decode cX0_numberEnd 2 = .ok (.iload_n 2, 1) := by decide +kernel
theorem dX0_numberEnd_3 : decode cX0_numberEnd 3 = .ok (.istore 4, 2) := by decide +kernel
theorem dX0_numberEnd_5 : decode cX0_numberEnd 5 = .ok (.iload_n 3, 1) := by decide +kernel
theorem dX0_numberEnd_6 : decode cX0_numberEnd 6 = .ok (.aload_n 0, 1) := by decide +kernel
theorem dX0_numberEnd_7 : decode cX0_numberEnd 7 = .ok (.getfield 19, 3) := by decide +kernel
theorem dX0_numberEnd_10 : decode cX0_numberEnd 10 = .ok (.if_icmp .ge 34, 3) := by decide +kernel
theorem dX0_numberEnd_13 : decode cX0_numberEnd 13 = .ok (.aload_n 0, 1) := by decide +kernel
theorem dX0_numberEnd_14 : decode cX0_numberEnd 14 = .ok (.iload_n 3, 1) := by decide +kernel
theorem dX0_numberEnd_15 : decode cX0_numberEnd 15 = .ok (.invokevirtual 28, 3) := by decide +kernel
theorem dX0_numberEnd_18 : decode cX0_numberEnd 18 = .ok (.iload 4, 2) := by decide +kernel
theorem dX0_numberEnd_20 : decode cX0_numberEnd 20 = .ok (.invokestatic 171, 3) := by decide +kernel
theorem dX0_numberEnd_23 : decode cX0_numberEnd 23 = .ok (.ifCond .eq 21, 3) := by decide +kernel
theorem dX0_numberEnd_26 : decode cX0_numberEnd 26 = .ok (.aload_n 0, 1) := by decide +kernel
theorem dX0_numberEnd_27 : decode cX0_numberEnd 27 = .ok (.iload_n 3, 1) := by decide +kernel
theorem dX0_numberEnd_28 : decode cX0_numberEnd 28 = .ok (.invokevirtual 28, 3) := by decide +kernel
theorem dX0_numberEnd_31 : decode cX0_numberEnd 31 = .ok (.istore 4, 2) := by decide +kernel
theorem dX0_numberEnd_33 : decode cX0_numberEnd 33 = .ok (.aload_n 0, 1) := by decide +kernel
theorem dX0_numberEnd_34 : decode cX0_numberEnd 34 = .ok (.iload_n 3, 1) := by decide +kernel
theorem dX0_numberEnd_35 : decode cX0_numberEnd 35 = .ok (.iconst 1, 1) := by decide +kernel
theorem dX0_numberEnd_36 : decode cX0_numberEnd 36 = .ok (.iadd, 1) := by decide +kernel
theorem dX0_numberEnd_37 : decode cX0_numberEnd 37 = .ok (.invokevirtual 42, 3) := by decide +kernel
theorem dX0_numberEnd_40 : decode cX0_numberEnd 40 = .ok (.istore_n 3, 1) := by decide +kernel
theorem dX0_numberEnd_41 : decode cX0_numberEnd 41 = .ok (.goto (-36), 3) := by decide +kernel
theorem dX0_numberEnd_44 : decode cX0_numberEnd 44 = .ok (.iload_n 3, 1) := by decide +kernel
theorem dX0_numberEnd_45 : decode cX0_numberEnd 45 = .ok (.ireturn, 1) := by decide +kernel
theorem dX0_isAtHand_0 : decode cX0_isAtHand 0 = .ok (.iload_n 1, 1) := by decide +kernel
theorem dX0_isAtHand_1 : decode cX0_isAtHand 1 = .ok (.ifCond .lt 24, 3) := by decide +kernel
theorem dX0_isAtHand_4 : decode cX0_isAtHand 4 = .ok (.iload_n 1, 1) := by decide +kernel
theorem dX0_isAtHand_5 : decode cX0_isAtHand 5 = .ok (.aload_n 0, 1) := by decide +kernel
theorem dX0_isAtHand_6 : decode cX0_isAtHand 6 = .ok (.getfield 32, 3) := by decide +kernel
theorem dX0_isAtHand_9 : decode cX0_isAtHand 9 = .ok (.if_icmp .ge 16, 3) := by decide +kernel
theorem dX0_isAtHand_12 : decode cX0_isAtHand 12 = .ok (.iload_n 1, 1) := by decide +kernel
theorem dX0_isAtHand_13 : decode cX0_isAtHand 13 = .ok (.aload_n 0, 1) := by decide +kernel
theorem dX0_isAtHand_14 : decode cX0_isAtHand 14 = .ok (.getfield 13, 3) := by decide +kernel
theorem dX0_isAtHand_17 : decode cX0_isAtHand 17 = .ok (.arraylength, 1) := by decide +kernel
theorem dX0_isAtHand_18 : decode cX0_isAtHand 18 = .ok (.if_icmp .ge 7, 3) := by decide +kernel
theorem dX0_isAtHand_21 : decode cX0_isAtHand 21 = .ok (.iconst 1, 1) := by decide +kernel
theorem dX0_isAtHand_22 : decode cX0_isAtHand 22 = .ok (.goto 4, 3) := by decide +kernel
theorem dX0_isAtHand_25 : decode cX0_isAtHand 25 = .ok (.iconst 0, 1) := by decide +kernel
theorem dX0_isAtHand_26 : decode cX0_isAtHand 26 = .ok (.ireturn, 1) := by decide +kernel
theorem dX0_isDirective_0 : decode cX0_isDirective 0 = .ok (.aload_n 0, 1) := by decide +kernel
theorem dX0_isDirective_1 : decode cX0_isDirective 1 = .ok (.iconst 0, 1) := by decide +kernel
theorem dX0_isDirective_2 : decode cX0_isDirective 2 = .ok (.invokevirtual 71, 3) := by decide +kernel
theorem dX0_isDirective_5 : decode cX0_isDirective 5 = .ok (.ifCond .eq 38, 3) := by decide +kernel
theorem dX0_isDirective_8 : decode cX0_isDirective 8 = .ok (.aload_n 0, 1) := by decide +kernel
theorem dX0_isDirective_9 : decode cX0_isDirective 9 = .ok (.getfield 13, 3) := by decide +kernel
theorem dX0_isDirective_12 : decode cX0_isDirective 12 = .ok (.iconst 0, 1) := by decide +kernel
theorem dX0_isDirective_13 : decode cX0_isDirective 13 = .ok (.laload, 1) := by decide +kernel
theorem dX0_isDirective_14 : decode cX0_isDirective 14 = .ok (.invokestatic 76, 3) := by decide +kernel
theorem dX0_isDirective_17 : decode cX0_isDirective 17 = .ok (.iconst 1, 1) := by decide +kernel
theorem dX0_isDirective_18 : decode cX0_isDirective 18 = .ok (.if_icmp .ne 25, 3) := by decide +kernel
theorem dX0_isDirective_21 : decode cX0_isDirective 21 = .ok (.aload_n 0, 1) := by decide +kernel
theorem dX0_isDirective_22 : decode cX0_isDirective 22 = .ok (.aload_n 0, 1) := by decide +kernel
theorem dX0_isDirective_23 : decode cX0_isDirective 23 = .ok (.getfield 13, 3) := by decide +kernel
theorem dX0_isDirective_26 : decode cX0_isDirective 26 = .ok (.iconst 0, 1) := by decide +kernel
theorem dX0_isDirective_27 : decode cX0_isDirective 27 = .ok (.laload, 1) := by decide +kernel
theorem dX0_isDirective_28 : decode cX0_isDirective 28 = .ok (.invokestatic 80, 3) := by decide +kernel
theorem dX0_isDirective_31 : decode cX0_isDirective 31 = .ok (.invokevirtual 28, 3) := by decide +kernel
theorem dX0_isDirective_34 : decode cX0_isDirective 34 = .ok (.bipush 35, 2) := by decide +kernel
theorem dX0_isDirective_36 : decode cX0_isDirective 36 = .ok (.if_icmp .ne 7, 3) := by decide +kernel
theorem dX0_isDirective_39 : decode cX0_isDirective 39 = .ok (.iconst 1, 1) := by decide +kernel
theorem dX0_isDirective_40 : decode cX0_isDirective 40 = .ok (.goto 4, 3) := by decide +kernel
theorem dX0_isDirective_43 : decode cX0_isDirective 43 = .ok (.iconst 0, 1) := by decide +kernel
theorem dX0_isDirective_44 : decode cX0_isDirective 44 = .ok (.ireturn, 1) := by decide +kernel
theorem dX0_startOf_0 : decode cX0_startOf 0 = .ok (.lload_n 0, 1) := by decide +kernel
theorem dX0_startOf_1 : decode cX0_startOf 1 = .ok (.l2i, 1) := by decide +kernel
theorem dX0_startOf_2 : decode cX0_startOf 2 = .ok (.ldc 75, 2) := by decide +kernel
theorem dX0_startOf_4 : decode cX0_startOf 4 = .ok (.iand, 1) := by decide +kernel
theorem dX0_startOf_5 : decode cX0_startOf 5 = .ok (.ireturn, 1) := by decide +kernel
theorem dX0_bytesOf_0 : decode cX0_bytesOf 0 = .ok (.lload_n 0, 1) := by decide +kernel
theorem dX0_bytesOf_1 : decode cX0_bytesOf 1 = .ok (.bipush 16, 2) := by decide +kernel
theorem dX0_bytesOf_3 : decode cX0_bytesOf 3 = .ok (.lushr, 1) := by decide +kernel
theorem dX0_bytesOf_4 : decode cX0_bytesOf 4 = .ok (.l2i, 1) := by decide +kernel
theorem dX0_bytesOf_5 : decode cX0_bytesOf 5 = .ok (.ldc 75, 2) := by decide +kernel
theorem dX0_bytesOf_7 : decode cX0_bytesOf 7 = .ok (.iand, 1) := by decide +kernel
theorem dX0_bytesOf_8 : decode cX0_bytesOf 8 = .ok (.ireturn, 1) := by decide +kernel
theorem dX0_goesOnNumber_0 : decode cX0_goesOnNumber 0 = .ok (.iload_n 0, 1) := by decide +kernel
theorem dX0_goesOnNumber_1 : decode cX0_goesOnNumber 1 = .ok (.bipush 43, 2) := by decide +kernel
theorem dX0_goesOnNumber_3 : decode cX0_goesOnNumber 3 = .ok (.if_icmp .eq 9, 3) := by decide +kernel
theorem dX0_goesOnNumber_6 : decode cX0_goesOnNumber 6 = .ok (.iload_n 0, 1) := by decide +kernel
theorem dX0_goesOnNumber_7 : decode cX0_goesOnNumber 7 = .ok (.bipush 45, 2) := by decide +kernel
theorem dX0_goesOnNumber_9 : decode cX0_goesOnNumber 9 = .ok (.if_icmp .ne 33, 3) := by decide +kernel
theorem dX0_goesOnNumber_12 : decode cX0_goesOnNumber 12 = .ok (.iload_n 1, 1) := by decide +kernel
theorem dX0_goesOnNumber_13 : decode cX0_goesOnNumber 13 = .ok (.bipush 101, 2) := by decide +kernel
theorem dX0_goesOnNumber_15 : decode cX0_goesOnNumber 15 = .ok (.if_icmp .eq 21, 3) := by decide +kernel
theorem dX0_goesOnNumber_18 : decode cX0_goesOnNumber 18 = .ok (.iload_n 1, 1) := by decide +kernel
theorem dX0_goesOnNumber_19 : decode cX0_goesOnNumber 19 = .ok (.bipush 69, 2) := by decide +kernel
theorem dX0_goesOnNumber_21 : decode cX0_goesOnNumber 21 = .ok (.if_icmp .eq 15, 3) := by decide +kernel
theorem dX0_goesOnNumber_24 : decode cX0_goesOnNumber 24 = .ok (.iload_n 1, 1) := by decide +kernel
theorem dX0_goesOnNumber_25 : decode cX0_goesOnNumber 25 = .ok (.bipush 112, 2) := by decide +kernel
theorem dX0_goesOnNumber_27 : decode cX0_goesOnNumber 27 = .ok (.if_icmp .eq 9, 3) := by decide +kernel
theorem dX0_goesOnNumber_30 : decode cX0_goesOnNumber 30 = .ok (.iload_n 1, 1) := by decide +kernel
theorem dX0_goesOnNumber_31 : decode cX0_goesOnNumber 31 = .ok (.bipush 80, 2) := by decide +kernel
theorem dX0_goesOnNumber_33 : decode cX0_goesOnNumber 33 = .ok (.if_icmp .ne 7, 3) := by decide +kernel
theorem dX0_goesOnNumber_36 : decode cX0_goesOnNumber 36 = .ok (.iconst 1, 1) := by decide +kernel
theorem dX0_goesOnNumber_37 : decode cX0_goesOnNumber 37 = .ok (.goto 4, 3) := by decide +kernel
theorem dX0_goesOnNumber_40 : decode cX0_goesOnNumber 40 = .ok (.iconst 0, 1) := by decide +kernel
theorem dX0_goesOnNumber_41 : decode cX0_goesOnNumber 41 = .ok (.ireturn, 1) := by decide +kernel
theorem dX0_goesOnNumber_42 : decode cX0_goesOnNumber 42 = .ok (.iload_n 0, 1) := by decide +kernel
theorem dX0_goesOnNumber_43 : decode cX0_goesOnNumber 43 = .ok (.invokestatic 142, 3) := by decide +kernel
theorem dX0_goesOnNumber_46 : decode cX0_goesOnNumber 46 = .ok (.ifCond .ne 16, 3) := by decide +kernel
theorem dX0_goesOnNumber_49 : decode cX0_goesOnNumber 49 = .ok (.iload_n 0, 1) := by decide +kernel
theorem dX0_goesOnNumber_50 : decode cX0_goesOnNumber 50 = .ok (.invokestatic 133, 3) := by decide +kernel
theorem dX0_goesOnNumber_53 : decode cX0_goesOnNumber 53 = .ok (.ifCond .ne 9, 3) := by decide +kernel
theorem dX0_goesOnNumber_56 : decode cX0_goesOnNumber 56 = .ok (.iload_n 0, 1) := by decide +kernel
theorem dX0_goesOnNumber_57 : decode cX0_goesOnNumber 57 = .ok (.bipush 46, 2) := by decide +kernel
theorem dX0_goesOnNumber_59 : decode cX0_goesOnNumber 59 = .ok (.if_icmp .ne 7, 3) := by decide +kernel
theorem dX0_goesOnNumber_62 : decode cX0_goesOnNumber 62 = .ok (.iconst 1, 1) := by decide +kernel
theorem dX0_goesOnNumber_63 : decode cX0_goesOnNumber 63 = .ok (.goto 4, 3) := by decide +kernel
theorem dX0_goesOnNumber_66 : decode cX0_goesOnNumber 66 = .ok (.iconst 0, 1) := by decide +kernel
theorem dX0_goesOnNumber_67 : decode cX0_goesOnNumber 67 = .ok (.ireturn, 1) := by decide +kernel
theorem dX0_isLetter_0 : decode cX0_isLetter 0 = .ok (.iload_n 0, 1) := by decide +kernel
theorem dX0_isLetter_1 : decode cX0_isLetter 1 = .ok (.bipush 65, 2) := by decide +kernel
theorem dX0_isLetter_3 : decode cX0_isLetter 3 = .ok (.if_icmp .lt 9, 3) := by decide +kernel
theorem dX0_isLetter_6 : decode cX0_isLetter 6 = .ok (.iload_n 0, 1) := by decide +kernel
theorem dX0_isLetter_7 : decode cX0_isLetter 7 = .ok (.bipush 90, 2) := by decide +kernel
theorem dX0_isLetter_9 : decode cX0_isLetter 9 = .ok (.if_icmp .le 21, 3) := by decide +kernel
theorem dX0_isLetter_12 : decode cX0_isLetter 12 = .ok (.iload_n 0, 1) := by decide +kernel
theorem dX0_isLetter_13 : decode cX0_isLetter 13 = .ok (.bipush 97, 2) := by decide +kernel
theorem dX0_isLetter_15 : decode cX0_isLetter 15 = .ok (.if_icmp .lt 9, 3) := by decide +kernel
theorem dX0_isLetter_18 : decode cX0_isLetter 18 = .ok (.iload_n 0, 1) := by decide +kernel
theorem dX0_isLetter_19 : decode cX0_isLetter 19 = .ok (.bipush 122, 2) := by decide +kernel
theorem dX0_isLetter_21 : decode cX0_isLetter 21 = .ok (.if_icmp .le 9, 3) := by decide +kernel
theorem dX0_isLetter_24 : decode cX0_isLetter 24 = .ok (.iload_n 0, 1) := by decide +kernel
theorem dX0_isLetter_25 : decode cX0_isLetter 25 = .ok (.bipush 95, 2) := by decide +kernel
theorem dX0_isLetter_27 : decode cX0_isLetter 27 = .ok (.if_icmp .ne 7, 3) := by decide +kernel
theorem dX0_isLetter_30 : decode cX0_isLetter 30 = .ok (.iconst 1, 1) := by decide +kernel
theorem dX0_isLetter_31 : decode cX0_isLetter 31 = .ok (.goto 4, 3) := by decide +kernel
theorem dX0_isLetter_34 : decode cX0_isLetter 34 = .ok (.iconst 0, 1) := by decide +kernel
theorem dX0_isLetter_35 : decode cX0_isLetter 35 = .ok (.ireturn, 1) := by decide +kernel
theorem dX0_isDigit_0 : decode cX0_isDigit 0 = .ok (.iload_n 0, 1) := by decide +kernel
theorem dX0_isDigit_1 : decode cX0_isDigit 1 = .ok (.bipush 48, 2) := by decide +kernel
theorem dX0_isDigit_3 : decode cX0_isDigit 3 = .ok (.if_icmp .lt 13, 3) := by decide +kernel
theorem dX0_isDigit_6 : decode cX0_isDigit 6 = .ok (.iload_n 0, 1) := by decide +kernel
theorem dX0_isDigit_7 : decode cX0_isDigit 7 = .ok (.bipush 57, 2) := by decide +kernel
theorem dX0_isDigit_9 : decode cX0_isDigit 9 = .ok (.if_icmp .gt 7, 3) := by decide +kernel
theorem dX0_isDigit_12 : decode cX0_isDigit 12 = .ok (.iconst 1, 1) := by decide +kernel
theorem dX0_isDigit_13 : decode cX0_isDigit 13 = .ok (.goto 4, 3) := by decide +kernel
theorem dX0_isDigit_16 : decode cX0_isDigit 16 = .ok (.iconst 0, 1) := by decide +kernel
theorem dX0_isDigit_17 : decode cX0_isDigit 17 = .ok (.ireturn, 1) := by decide +kernel
theorem dX0_isBlank_0 : decode cX0_isBlank 0 = .ok (.iload_n 0, 1) := by decide +kernel
theorem dX0_isBlank_1 : decode cX0_isBlank 1 = .ok (.bipush 32, 2) := by decide +kernel
theorem dX0_isBlank_3 : decode cX0_isBlank 3 = .ok (.if_icmp .eq 21, 3) := by decide +kernel
theorem dX0_isBlank_6 : decode cX0_isBlank 6 = .ok (.iload_n 0, 1) := by decide +kernel
theorem dX0_isBlank_7 : decode cX0_isBlank 7 = .ok (.bipush 9, 2) := by decide +kernel
theorem dX0_isBlank_9 : decode cX0_isBlank 9 = .ok (.if_icmp .eq 15, 3) := by decide +kernel
theorem dX0_isBlank_12 : decode cX0_isBlank 12 = .ok (.iload_n 0, 1) := by decide +kernel
theorem dX0_isBlank_13 : decode cX0_isBlank 13 = .ok (.bipush 11, 2) := by decide +kernel
theorem dX0_isBlank_15 : decode cX0_isBlank 15 = .ok (.if_icmp .lt 13, 3) := by decide +kernel
theorem dX0_isBlank_18 : decode cX0_isBlank 18 = .ok (.iload_n 0, 1) := by decide +kernel
theorem dX0_isBlank_19 : decode cX0_isBlank 19 = .ok (.bipush 13, 2) := by decide +kernel
theorem dX0_isBlank_21 : decode cX0_isBlank 21 = .ok (.if_icmp .gt 7, 3) := by decide +kernel
theorem dX0_isBlank_24 : decode cX0_isBlank 24 = .ok (.iconst 1, 1) := by decide +kernel
theorem dX0_isBlank_25 : decode cX0_isBlank 25 = .ok (.goto 4, 3) := by decide +kernel
theorem dX0_isBlank_28 : decode cX0_isBlank 28 = .ok (.iconst 0, 1) := by decide +kernel
theorem dX0_isBlank_29 : decode cX0_isBlank 29 = .ok (.ireturn, 1) := by decide +kernel
theorem dX0_isQuote_0 : decode cX0_isQuote 0 = .ok (.iload_n 0, 1) := by decide +kernel
theorem dX0_isQuote_1 : decode cX0_isQuote 1 = .ok (.bipush 34, 2) := by decide +kernel
theorem dX0_isQuote_3 : decode cX0_isQuote 3 = .ok (.if_icmp .eq 9, 3) := by decide +kernel
theorem dX0_isQuote_6 : decode cX0_isQuote 6 = .ok (.iload_n 0, 1) := by decide +kernel
theorem dX0_isQuote_7 : decode cX0_isQuote 7 = .ok (.bipush 39, 2) := by decide +kernel
theorem dX0_isQuote_9 : decode cX0_isQuote 9 = .ok (.if_icmp .ne 7, 3) := by decide +kernel
theorem dX0_isQuote_12 : decode cX0_isQuote 12 = .ok (.iconst 1, 1) := by decide +kernel
theorem dX0_isQuote_13 : decode cX0_isQuote 13 = .ok (.goto 4, 3) := by decide +kernel
theorem dX0_isQuote_16 : decode cX0_isQuote 16 = .ok (.iconst 0, 1) := by decide +kernel
theorem dX0_isQuote_17 : decode cX0_isQuote 17 = .ok (.ireturn, 1) := by decide +kernel
theorem dX0_kindOfQuote_0 : decode cX0_kindOfQuote 0 = .ok (.iload_n 0, 1) := by decide +kernel
theorem dX0_kindOfQuote_1 : decode cX0_kindOfQuote 1 = .ok (.bipush 34, 2) := by decide +kernel
theorem dX0_kindOfQuote_3 : decode cX0_kindOfQuote 3 = .ok (.if_icmp .ne 7, 3) := by decide +kernel
theorem dX0_kindOfQuote_6 : decode cX0_kindOfQuote 6 = .ok (.iconst 3, 1) := by decide +kernel
theorem dX0_kindOfQuote_7 : decode cX0_kindOfQuote 7 = .ok (.goto 4, 3) := by decide +kernel
theorem dX0_kindOfQuote_10 : decode cX0_kindOfQuote 10 = .ok (.iconst 4, 1) := by decide +kernel
theorem dX0_kindOfQuote_11 : decode cX0_kindOfQuote 11 = .ok (.ireturn, 1) := by decide +kernel
theorem dX0_hasSign_0 : decode cX0_hasSign 0 = .ok (.iconst 0, 1) := by decide +kernel
theorem dX0_hasSign_1 : decode cX0_hasSign 1 = .ok (.istore 5, 2) := by decide +kernel
theorem dX0_hasSign_3 : decode cX0_hasSign 3 = .ok (.iload 5, 2) := by decide +kernel
theorem dX0_hasSign_5 : decode cX0_hasSign 5 = .ok (.iload_n 1, 1) := by decide +kernel
theorem dX0_hasSign_6 : decode cX0_hasSign 6 = .ok (.iadd, 1) := by decide +kernel
theorem dX0_hasSign_7 : decode cX0_hasSign 7 = .ok (.aload_n 0, 1) := by decide +kernel
theorem dX0_hasSign_8 : decode cX0_hasSign 8 = .ok (.invokevirtual 175, 3) := by decide +kernel
theorem dX0_hasSign_11 : decode cX0_hasSign 11 = .ok (.if_icmp .gt 59, 3) := by decide +kernel
theorem dX0_hasSign_14 : decode cX0_hasSign 14 = .ok (.aload_n 0, 1) := by decide +kernel
theorem dX0_hasSign_15 : decode cX0_hasSign 15 = .ok (.iload 5, 2) := by decide +kernel
theorem dX0_hasSign_17 : decode cX0_hasSign 17 = .ok (.invokevirtual 179, 3) := by decide +kernel
theorem dX0_hasSign_20 : decode cX0_hasSign 20 = .ok (.iload_n 2, 1) := by decide +kernel
theorem dX0_hasSign_21 : decode cX0_hasSign 21 = .ok (.if_icmp .ne 40, 3) := by decide +kernel
theorem dX0_hasSign_24 : decode cX0_hasSign 24 = .ok (.iload_n 1, 1) := by decide +kernel
theorem dX0_hasSign_25 : decode cX0_hasSign 25 = .ok (.iconst 2, 1) := by decide +kernel
theorem dX0_hasSign_26 : decode cX0_hasSign 26 = .ok (.if_icmp .lt 15, 3) := by decide +kernel
theorem dX0_hasSign_29 : decode cX0_hasSign 29 = .ok (.aload_n 0, 1) := by decide +kernel
theorem dX0_hasSign_30 : decode cX0_hasSign 30 = .ok (.iload 5, 2) := by decide +kernel
theorem dX0_hasSign_32 : decode cX0_hasSign 32 = .ok (.iconst 1, 1) := by decide +kernel
theorem dX0_hasSign_33 : decode cX0_hasSign 33 = .ok (.iadd, 1) := by decide +kernel
theorem dX0_hasSign_34 : decode cX0_hasSign 34 = .ok (.invokevirtual 179, 3) := by decide +kernel
theorem dX0_hasSign_37 : decode cX0_hasSign 37 = .ok (.iload_n 3, 1) := by decide +kernel
theorem dX0_hasSign_38 : decode cX0_hasSign 38 = .ok (.if_icmp .ne 23, 3) := by decide +kernel
theorem dX0_hasSign_41 : decode cX0_hasSign 41 = .ok (.iload_n 1, 1) := by decide +kernel
theorem dX0_hasSign_42 : decode cX0_hasSign 42 = .ok (.iconst 3, 1) := by decide +kernel
theorem dX0_hasSign_43 : decode cX0_hasSign 43 = .ok (.if_icmp .lt 16, 3) := by decide +kernel
theorem dX0_hasSign_46 : decode cX0_hasSign 46 = .ok (.aload_n 0, 1) := by decide +kernel
theorem dX0_hasSign_47 : decode cX0_hasSign 47 = .ok (.iload 5, 2) := by decide +kernel
theorem dX0_hasSign_49 : decode cX0_hasSign 49 = .ok (.iconst 2, 1) := by decide +kernel
theorem dX0_hasSign_50 : decode cX0_hasSign 50 = .ok (.iadd, 1) := by decide +kernel
theorem dX0_hasSign_51 : decode cX0_hasSign 51 = .ok (.invokevirtual 179, 3) := by decide +kernel
theorem dX0_hasSign_54 : decode cX0_hasSign 54 = .ok (.iload 4, 2) := by decide +kernel
theorem dX0_hasSign_56 : decode cX0_hasSign 56 = .ok (.if_icmp .ne 5, 3) := by decide +kernel
theorem dX0_hasSign_59 : decode cX0_hasSign 59 = .ok (.iconst 1, 1) := by decide +kernel
theorem dX0_hasSign_60 : decode cX0_hasSign 60 = .ok (.ireturn, 1) := by decide +kernel
theorem dX0_hasSign_61 : decode cX0_hasSign 61 = .ok (.iload 5, 2) := by decide +kernel
theorem dX0_hasSign_63 : decode cX0_hasSign 63 = .ok (.iload_n 1, 1) := by decide +kernel
theorem dX0_hasSign_64 : decode cX0_hasSign 64 = .ok (.iadd, 1) := by decide +kernel
theorem dX0_hasSign_65 : decode cX0_hasSign 65 = .ok (.istore 5, 2) := by decide +kernel
theorem dX0_hasSign_67 : decode cX0_hasSign 67 = .ok (.goto (-64), 3) := by decide +kernel
theorem dX0_hasSign_70 : decode cX0_hasSign 70 = .ok (.iconst 0, 1) := by decide +kernel
theorem dX0_hasSign_71 : decode cX0_hasSign 71 = .ok (.ireturn, 1) := by decide +kernel
end
section
/-! decode rows -/
theorem dX1_init_0 : decode cX1_init 0 = .ok (.aload_n 0, 1) := by decide +kernel
theorem dX1_init_1 : decode cX1_init 1 = .ok (.invokespecial 1, 3) := by decide +kernel
theorem dX1_init_4 : decode cX1_init 4 = .ok (.aload_n 0, 1) := by decide +kernel
theorem dX1_init_5 : decode cX1_init 5 = .ok (.ldc 9, 2) := by decide +kernel
theorem dX1_init_7 : decode cX1_init 7 = .ok (.newarray .byte, 2) := by decide +kernel
theorem dX1_init_9 : decode cX1_init 9 = .ok (.putfield 10, 3) := by decide +kernel
theorem dX1_init_12 : decode cX1_init 12 = .ok (.aload_n 0, 1) := by decide +kernel
theorem dX1_init_13 : decode cX1_init 13 = .ok (.ldc 9, 2) := by decide +kernel
theorem dX1_init_15 : decode cX1_init 15 = .ok (.newarray .byte, 2) := by decide +kernel
theorem dX1_init_17 : decode cX1_init 17 = .ok (.putfield 14, 3) := by decide +kernel
theorem dX1_init_20 : decode cX1_init 20 = .ok (.aload_n 0, 1) := by decide +kernel
theorem dX1_init_21 : decode cX1_init 21 = .ok (.ldc 9, 2) := by decide +kernel
theorem dX1_init_23 : decode cX1_init 23 = .ok (.newarray .int, 2) := by decide +kernel
theorem dX1_init_25 : decode cX1_init 25 = .ok (.putfield 17, 3) := by decide +kernel
theorem dX1_init_28 : decode cX1_init 28 = .ok (.aload_n 0, 1) := by decide +kernel
theorem dX1_init_29 : decode cX1_init 29 = .ok (.ldc 9, 2) := by decide +kernel
theorem dX1_init_31 : decode cX1_init 31 = .ok (.newarray .int, 2) := by decide +kernel
theorem dX1_init_33 : decode cX1_init 33 = .ok (.putfield 21, 3) := by decide +kernel
theorem dX1_init_36 : decode cX1_init 36 = .ok (.aload_n 0, 1) := by decide +kernel
theorem dX1_init_37 : decode cX1_init 37 = .ok (.sipush 8000, 3) := by decide +kernel
theorem dX1_init_40 : decode cX1_init 40 = .ok (.newarray .int, 2) := by decide +kernel
theorem dX1_init_42 : decode cX1_init 42 = .ok (.putfield 24, 3) := by decide +kernel
theorem dX1_init_45 : decode cX1_init 45 = .ok (.aload_n 0, 1) := by decide +kernel
theorem dX1_init_46 : decode cX1_init 46 = .ok (.sipush 8000, 3) := by decide +kernel
theorem dX1_init_49 : decode cX1_init 49 = .ok (.newarray .int, 2) := by decide +kernel
theorem dX1_init_51 : decode cX1_init 51 = .ok (.putfield 27, 3) := by decide +kernel
theorem dX1_init_54 : decode cX1_init 54 = .ok (.aload_n 0, 1) := by decide +kernel
theorem dX1_init_55 : decode cX1_init 55 = .ok (.sipush 8000, 3) := by decide +kernel
theorem dX1_init_58 : decode cX1_init 58 = .ok (.newarray .int, 2) := by decide +kernel
theorem dX1_init_60 : decode cX1_init 60 = .ok (.putfield 30, 3) := by decide +kernel
theorem dX1_init_63 : decode cX1_init 63 = .ok (.aload_n 0, 1) := by decide +kernel
theorem dX1_init_64 : decode cX1_init 64 = .ok (.sipush 8000, 3) := by decide +kernel
theorem dX1_init_67 : decode cX1_init 67 = .ok (.newarray .boolean, 2) := by decide +kernel
theorem dX1_init_69 : decode cX1_init 69 = .ok (.putfield 33, 3) := by decide +kernel
theorem dX1_init_72 : decode cX1_init 72 = .ok (.aload_n 0, 1) := by decide +kernel
theorem dX1_init_73 : decode cX1_init 73 = .ok (.ldc 9, 2) := by decide +kernel
theorem dX1_init_75 : decode cX1_init 75 = .ok (.newarray .byte, 2) := by decide +kernel
theorem dX1_init_77 : decode cX1_init 77 = .ok (.putfield 37, 3) := by decide +kernel
theorem dX1_init_80 : decode cX1_init 80 = .ok (.aload_n 0, 1) := by decide +kernel
theorem dX1_init_81 : decode cX1_init 81 = .ok (.invokevirtual 40, 3) := by decide +kernel
theorem dX1_init_84 : decode cX1_init 84 = .ok (.return_, 1) := by decide +kernel
theorem dX1_feed_0 : decode cX1_feed 0 = .ok (.iload_n 3, 1) := by decide +kernel
theorem dX1_feed_1 : decode cX1_feed 1 = .ok (.iconst 1, 1) := by decide +kernel
theorem dX1_feed_2 : decode cX1_feed 2 = .ok (.if_icmp .lt 9, 3) := by decide +kernel
theorem dX1_feed_5 : decode cX1_feed 5 = .ok (.iload_n 3, 1) := by decide +kernel
theorem dX1_feed_6 : decode cX1_feed 6 = .ok (.bipush 8, 2) := by decide +kernel
theorem dX1_feed_8 : decode cX1_feed 8 = .ok (.if_icmp .le 5, 3) := by decide +kernel
theorem dX1_feed_11 : decode cX1_feed 11 = .ok (.iconst (-1), 1) := by decide +kernel
theorem dX1_feed_12 : decode cX1_feed 12 = .ok (.ireturn, 1) := by decide +kernel
theorem dX1_feed_13 : decode cX1_feed 13 = .ok (.aload_n 0, 1) := by decide +kernel
theorem dX1_feed_14 : decode cX1_feed 14 = .ok (.getfield 43, 3) := by decide +kernel
theorem dX1_feed_17 : decode cX1_feed 17 = .ok (.iload_n 3, 1) := by decide +kernel
theorem dX1_feed_18 : decode cX1_feed 18 = .ok (.iadd, 1) := by decide +kernel
theorem dX1_feed_19 : decode cX1_feed 19 = .ok (.ldc 9, 2) := by decide +kernel
theorem dX1_feed_21 : decode cX1_feed 21 = .ok (.if_icmp .le 6, 3) := by decide +kernel
theorem dX1_feed_24 : decode cX1_feed 24 = .ok (.bipush (-3), 2) := by decide +kernel
theorem dX1_feed_26 : decode cX1_feed 26 = .ok (.ireturn, 1) := by decide +kernel
theorem dX1_feed_27 : decode cX1_feed 27 = .ok (.iconst 0, 1) := by decide +kernel
theorem dX1_feed_28 : decode cX1_feed 28 = .ok (.istore 4, 2) := by decide +kernel
theorem dX1_feed_30 : decode cX1_feed 30 = .ok (.iload 4, 2) := by decide +kernel
theorem dX1_feed_32 : decode cX1_feed 32 = .ok (.iload_n 3, 1) := by decide +kernel
theorem dX1_feed_33 : decode cX1_feed 33 = .ok (.if_icmp .ge 37, 3) := by decide +kernel
theorem dX1_feed_36 : decode cX1_feed 36 = .ok (.aload_n 0, 1) := by decide +kernel
theorem dX1_feed_37 : decode cX1_feed 37 = .ok (.getfield 10, 3) := by decide +kernel
theorem dX1_feed_40 : decode cX1_feed 40 = .ok (.aload_n 0, 1) := by decide +kernel
theorem dX1_feed_41 : decode cX1_feed 41 = .ok (.getfield 43, 3) := by decide +kernel
theorem dX1_feed_44 : decode cX1_feed 44 = .ok (.lload_n 1, 1) := by decide +kernel
theorem dX1_feed_45 : decode cX1_feed 45 = .ok (.bipush 8, 2) := by decide +kernel
theorem dX1_feed_47 : decode cX1_feed 47 = .ok (.iload 4, 2) := by decide +kernel
theorem dX1_feed_49 : decode cX1_feed 49 = .ok (.imul, 1) := by decide +kernel
theorem dX1_feed_50 : decode cX1_feed 50 = .ok (.lshr, 1) := by decide +kernel
theorem dX1_feed_51 : decode cX1_feed 51 = .ok (.l2i, 1) := by decide +kernel
theorem dX1_feed_52 : decode cX1_feed 52 = .ok (.i2b, 1) := by decide +kernel
theorem dX1_feed_53 : decode cX1_feed 53 = .ok (.bastore, 1) := by decide +kernel
theorem dX1_feed_54 : decode cX1_feed 54 = .ok (.aload_n 0, 1) := by decide +kernel
theorem dX1_feed_55 : decode cX1_feed 55 = .ok (.dup, 1) := by decide +kernel
theorem dX1_feed_56 : decode cX1_feed 56 = .ok (.getfield 43, 3) := by decide +kernel
theorem dX1_feed_59 : decode cX1_feed 59 = .ok (.iconst 1, 1) := by decide +kernel
theorem dX1_feed_60 : decode cX1_feed 60 = .ok (.iadd, 1) := by decide +kernel
theorem dX1_feed_61 : decode cX1_feed 61 = .ok (.putfield 43, 3) := by decide +kernel
theorem dX1_feed_64 : decode cX1_feed 64 = .ok (.iinc 4 1, 3) := by decide +kernel
theorem dX1_feed_67 : decode cX1_feed 67 = .ok (.goto (-37), 3) := by decide +kernel
theorem dX1_feed_70 : decode cX1_feed 70 = .ok (.aload_n 0, 1) := by decide +kernel
theorem dX1_feed_71 : decode cX1_feed 71 = .ok (.getfield 43, 3) := by decide +kernel
theorem dX1_feed_74 : decode cX1_feed 74 = .ok (.ireturn, 1) := by decide +kernel
theorem dX1_again_0 : decode cX1_again 0 = .ok (.iload_n 1, 1) := by decide +kernel
theorem dX1_again_1 : decode cX1_again 1 = .ok (.ifCond .lt 18, 3) := by decide +kernel
theorem dX1_again_4 : decode cX1_again 4 = .ok (.iload_n 2, 1) := by decide +kernel
theorem dX1_again_5 : decode cX1_again 5 = .ok (.iconst 1, 1) := by decide +kernel
theorem dX1_again_6 : decode cX1_again 6 = .ok (.if_icmp .lt 13, 3) := by decide +kernel
theorem dX1_again_9 : decode cX1_again 9 = .ok (.iload_n 2, 1) := by decide +kernel
theorem dX1_again_10 : decode cX1_again 10 = .ok (.aload_n 0, 1) := by decide +kernel
theorem dX1_again_11 : decode cX1_again 11 = .ok (.getfield 43, 3) := by decide +kernel
theorem dX1_again_14 : decode cX1_again 14 = .ok (.iload_n 1, 1) := by decide +kernel
theorem dX1_again_15 : decode cX1_again 15 = .ok (.isub, 1) := by decide +kernel
theorem dX1_again_16 : decode cX1_again 16 = .ok (.if_icmp .le 5, 3) := by decide +kernel
theorem dX1_again_19 : decode cX1_again 19 = .ok (.iconst (-1), 1) := by decide +kernel
theorem dX1_again_20 : decode cX1_again 20 = .ok (.ireturn, 1) := by decide +kernel
theorem dX1_again_21 : decode cX1_again 21 = .ok (.aload_n 0, 1) := by decide +kernel
theorem dX1_again_22 : decode cX1_again 22 = .ok (.getfield 43, 3) := by decide +kernel
theorem dX1_again_25 : decode cX1_again 25 = .ok (.iload_n 2, 1) := by decide +kernel
theorem dX1_again_26 : decode cX1_again 26 = .ok (.iadd, 1) := by decide +kernel
theorem dX1_again_27 : decode cX1_again 27 = .ok (.ldc 9, 2) := by decide +kernel
theorem dX1_again_29 : decode cX1_again 29 = .ok (.if_icmp .le 6, 3) := by decide +kernel
theorem dX1_again_32 : decode cX1_again 32 = .ok (.bipush (-3), 2) := by decide +kernel
theorem dX1_again_34 : decode cX1_again 34 = .ok (.ireturn, 1) := by decide +kernel
theorem dX1_again_35 : decode cX1_again 35 = .ok (.iconst 0, 1) := by decide +kernel
theorem dX1_again_36 : decode cX1_again 36 = .ok (.istore_n 3, 1) := by decide +kernel
theorem dX1_again_37 : decode cX1_again 37 = .ok (.iload_n 3, 1) := by decide +kernel
theorem dX1_again_38 : decode cX1_again 38 = .ok (.iload_n 2, 1) := by decide +kernel
theorem dX1_again_39 : decode cX1_again 39 = .ok (.if_icmp .ge 28, 3) := by decide +kernel
theorem dX1_again_42 : decode cX1_again 42 = .ok (.aload_n 0, 1) := by decide +kernel
theorem dX1_again_43 : decode cX1_again 43 = .ok (.getfield 10, 3) := by decide +kernel
theorem dX1_again_46 : decode cX1_again 46 = .ok (.aload_n 0, 1) := by decide +kernel
theorem dX1_again_47 : decode cX1_again 47 = .ok (.getfield 43, 3) := by decide +kernel
theorem dX1_again_50 : decode cX1_again 50 = .ok (.iload_n 3, 1) := by decide +kernel
theorem dX1_again_51 : decode cX1_again 51 = .ok (.iadd, 1) := by decide +kernel
theorem dX1_again_52 : decode cX1_again 52 = .ok (.aload_n 0, 1) := by decide +kernel
theorem dX1_again_53 : decode cX1_again 53 = .ok (.getfield 10, 3) := by decide +kernel
theorem dX1_again_56 : decode cX1_again 56 = .ok (.iload_n 1, 1) := by decide +kernel
theorem dX1_again_57 : decode cX1_again 57 = .ok (.iload_n 3, 1) := by decide +kernel
theorem dX1_again_58 : decode cX1_again 58 = .ok (.iadd, 1) := by decide +kernel
theorem dX1_again_59 : decode cX1_again 59 = .ok (.baload, 1) := by decide +kernel
theorem dX1_again_60 : decode cX1_again 60 = .ok (.bastore, 1) := by decide +kernel
theorem dX1_again_61 : decode cX1_again 61 = .ok (.iinc 3 1, 3) := by decide +kernel
theorem dX1_again_64 : decode cX1_again 64 = .ok (.goto (-27), 3) := by decide +kernel
theorem dX1_again_67 : decode cX1_again 67 = .ok (.aload_n 0, 1) := by decide +kernel
theorem dX1_again_68 : decode cX1_again 68 = .ok (.aload_n 0, 1) := by decide +kernel
theorem dX1_again_69 : decode cX1_again 69 = .ok (.getfield 43, 3) := by decide +kernel
theorem dX1_again_72 : decode cX1_again 72 = .ok (.iload_n 2, 1) := by decide +kernel
theorem dX1_again_73 : decode cX1_again 73 = .ok (.iadd, 1) := by decide +kernel
theorem dX1_again_74 : decode cX1_again 74 = .ok (.putfield 43, 3) := by decide +kernel
theorem dX1_again_77 : decode cX1_again 77 = .ok (.aload_n 0, 1) := by decide +kernel
theorem dX1_again_78 : decode cX1_again 78 = .ok (.getfield 43, 3) := by decide +kernel
theorem dX1_again_81 : decode cX1_again 81 = .ok (.ireturn, 1) := by decide +kernel
theorem dX1_clear_0 : decode cX1_clear 0 = .ok (.aload_n 0, 1) := by decide +kernel
theorem dX1_clear_1 : decode cX1_clear 1 = .ok (.getfield 43, 3) := by decide +kernel
theorem dX1_clear_4 : decode cX1_clear 4 = .ok (.istore_n 1, 1) := by decide +kernel
theorem dX1_clear_5 : decode cX1_clear 5 = .ok (.aload_n 0, 1) := by decide +kernel
theorem dX1_clear_6 : decode cX1_clear 6 = .ok (.iconst 0, 1) := by decide +kernel
theorem dX1_clear_7 : decode cX1_clear 7 = .ok (.putfield 43, 3) := by decide +kernel
theorem dX1_clear_10 : decode cX1_clear 10 = .ok (.aload_n 0, 1) := by decide +kernel
theorem dX1_clear_11 : decode cX1_clear 11 = .ok (.invokevirtual 40, 3) := by decide +kernel
theorem dX1_clear_14 : decode cX1_clear 14 = .ok (.iload_n 1, 1) := by decide +kernel
theorem dX1_clear_15 : decode cX1_clear 15 = .ok (.ireturn, 1) := by decide +kernel
theorem dX1_begin_0 : decode cX1_begin 0 = .ok (.aload_n 0, 1) := by decide +kernel
theorem dX1_begin_1 : decode cX1_begin 1 = .ok (.iconst 0, 1) := by decide +kernel
theorem dX1_begin_2 : decode cX1_begin 2 = .ok (.putfield 47, 3) := by decide +kernel
theorem dX1_begin_5 : decode cX1_begin 5 = .ok (.aload_n 0, 1) := by decide +kernel
theorem dX1_begin_6 : decode cX1_begin 6 = .ok (.iconst 1, 1) := by decide +kernel
theorem dX1_begin_7 : decode cX1_begin 7 = .ok (.putfield 50, 3) := by decide +kernel
theorem dX1_begin_10 : decode cX1_begin 10 = .ok (.aload_n 0, 1) := by decide +kernel
theorem dX1_begin_11 : decode cX1_begin 11 = .ok (.iconst 0, 1) := by decide +kernel
theorem dX1_begin_12 : decode cX1_begin 12 = .ok (.putfield 53, 3) := by decide +kernel
theorem dX1_begin_15 : decode cX1_begin 15 = .ok (.aload_n 0, 1) := by decide +kernel
theorem dX1_begin_16 : decode cX1_begin 16 = .ok (.iconst 0, 1) := by decide +kernel
theorem dX1_begin_17 : decode cX1_begin 17 = .ok (.putfield 57, 3) := by decide +kernel
theorem dX1_begin_20 : decode cX1_begin 20 = .ok (.aload_n 0, 1) := by decide +kernel
theorem dX1_begin_21 : decode cX1_begin 21 = .ok (.iconst 0, 1) := by decide +kernel
theorem dX1_begin_22 : decode cX1_begin 22 = .ok (.putfield 60, 3) := by decide +kernel
theorem dX1_begin_25 : decode cX1_begin 25 = .ok (.aload_n 0, 1) := by decide +kernel
theorem dX1_begin_26 : decode cX1_begin 26 = .ok (.iconst 0, 1) := by decide +kernel
theorem dX1_begin_27 : decode cX1_begin 27 = .ok (.putfield 63, 3) := by decide +kernel
theorem dX1_begin_30 : decode cX1_begin 30 = .ok (.aload_n 0, 1) := by decide +kernel
theorem dX1_begin_31 : decode cX1_begin 31 = .ok (.iconst 0, 1) := by decide +kernel
theorem dX1_begin_32 : decode cX1_begin 32 = .ok (.putfield 66, 3) := by decide +kernel
theorem dX1_begin_35 : decode cX1_begin 35 = .ok (.return_, 1) := by decide +kernel
theorem dX1_isLetter_0 : decode cX1_isLetter 0 = .ok (.iload_n 0, 1) := by decide +kernel
theorem dX1_isLetter_1 : decode cX1_isLetter 1 = .ok (.bipush 65, 2) := by decide +kernel
theorem dX1_isLetter_3 : decode cX1_isLetter 3 = .ok (.if_icmp .lt 9, 3) := by decide +kernel
theorem dX1_isLetter_6 : decode cX1_isLetter 6 = .ok (.iload_n 0, 1) := by decide +kernel
theorem dX1_isLetter_7 : decode cX1_isLetter 7 = .ok (.bipush 90, 2) := by decide +kernel
theorem dX1_isLetter_9 : decode cX1_isLetter 9 = .ok (.if_icmp .le 21, 3) := by decide +kernel
theorem dX1_isLetter_12 : decode cX1_isLetter 12 = .ok (.iload_n 0, 1) := by decide +kernel
theorem dX1_isLetter_13 : decode cX1_isLetter 13 = .ok (.bipush 97, 2) := by decide +kernel
theorem dX1_isLetter_15 : decode cX1_isLetter 15 = .ok (.if_icmp .lt 9, 3) := by decide +kernel
theorem dX1_isLetter_18 : decode cX1_isLetter 18 = .ok (.iload_n 0, 1) := by decide +kernel
theorem dX1_isLetter_19 : decode cX1_isLetter 19 = .ok (.bipush 122, 2) := by decide +kernel
theorem dX1_isLetter_21 : decode cX1_isLetter 21 = .ok (.if_icmp .le 9, 3) := by decide +kernel
theorem dX1_isLetter_24 : decode cX1_isLetter 24 = .ok (.iload_n 0, 1) := by decide +kernel
theorem dX1_isLetter_25 : decode cX1_isLetter 25 = .ok (.bipush 95, 2) := by decide +kernel
theorem dX1_isLetter_27 : decode cX1_isLetter 27 = .ok (.if_icmp .ne 7, 3) := by decide +kernel
theorem dX1_isLetter_30 : decode cX1_isLetter 30 = .ok (.iconst 1, 1) := by decide +kernel
theorem dX1_isLetter_31 : decode cX1_isLetter 31 = .ok (.goto 4, 3) := by decide +kernel
theorem dX1_isLetter_34 : decode cX1_isLetter 34 = .ok (.iconst 0, 1) := by decide +kernel
theorem dX1_isLetter_35 : decode cX1_isLetter 35 = .ok (.ireturn, 1) := by decide +kernel
theorem dX1_isDigit_0 : decode cX1_isDigit 0 = .ok (.iload_n 0, 1) := by decide +kernel
theorem dX1_isDigit_1 : decode cX1_isDigit 1 = .ok (.bipush 48, 2) := by decide +kernel
theorem dX1_isDigit_3 : decode cX1_isDigit 3 = .ok (.if_icmp .lt 13, 3) := by decide +kernel
theorem dX1_isDigit_6 : decode cX1_isDigit 6 = .ok (.iload_n 0, 1) := by decide +kernel
theorem dX1_isDigit_7 : decode cX1_isDigit 7 = .ok (.bipush 57, 2) := by decide +kernel
theorem dX1_isDigit_9 : decode cX1_isDigit 9 = .ok (.if_icmp .gt 7, 3) := by decide +kernel
theorem dX1_isDigit_12 : decode cX1_isDigit 12 = .ok (.iconst 1, 1) := by decide +kernel
theorem dX1_isDigit_13 : decode cX1_isDigit 13 = .ok (.goto 4, 3) := by decide +kernel
theorem dX1_isDigit_16 : decode cX1_isDigit 16 = .ok (.iconst 0, 1) := by decide +kernel
theorem dX1_isDigit_17 : decode cX1_isDigit 17 = .ok (.ireturn, 1) := by decide +kernel
theorem dX1_isBlank_0 : decode cX1_isBlank 0 = .ok (.iload_n 0, 1) := by decide +kernel
theorem dX1_isBlank_1 : decode cX1_isBlank 1 = .ok (.bipush 32, 2) := by decide +kernel
theorem dX1_isBlank_3 : decode cX1_isBlank 3 = .ok (.if_icmp .eq 27, 3) := by decide +kernel
theorem dX1_isBlank_6 : decode cX1_isBlank 6 = .ok (.iload_n 0, 1) := by decide +kernel
theorem dX1_isBlank_7 : decode cX1_isBlank 7 = .ok (.bipush 9, 2) := by decide +kernel
theorem dX1_isBlank_9 : decode cX1_isBlank 9 = .ok (.if_icmp .eq 21, 3) := by decide +kernel
theorem dX1_isBlank_12 : decode cX1_isBlank 12 = .ok (.iload_n 0, 1) := by decide +kernel
theorem dX1_isBlank_13 : decode cX1_isBlank 13 = .ok (.bipush 11, 2) := by decide +kernel
theorem dX1_isBlank_15 : decode cX1_isBlank 15 = .ok (.if_icmp .eq 15, 3) := by decide +kernel
theorem dX1_isBlank_18 : decode cX1_isBlank 18 = .ok (.iload_n 0, 1) := by decide +kernel
theorem dX1_isBlank_19 : decode cX1_isBlank 19 = .ok (.bipush 12, 2) := by decide +kernel
theorem dX1_isBlank_21 : decode cX1_isBlank 21 = .ok (.if_icmp .eq 9, 3) := by decide +kernel
theorem dX1_isBlank_24 : decode cX1_isBlank 24 = .ok (.iload_n 0, 1) := by decide +kernel
theorem dX1_isBlank_25 : decode cX1_isBlank 25 = .ok (.bipush 13, 2) := by decide +kernel
theorem dX1_isBlank_27 : decode cX1_isBlank 27 = .ok (.if_icmp .ne 7, 3) := by decide +kernel
theorem dX1_isBlank_30 : decode cX1_isBlank 30 = .ok (.iconst 1, 1) := by decide +kernel
theorem dX1_isBlank_31 : decode cX1_isBlank 31 = .ok (.goto 4, 3) := by decide +kernel
theorem dX1_isBlank_34 : decode cX1_isBlank 34 = .ok (.iconst 0, 1) := by decide +kernel
theorem dX1_isBlank_35 : decode cX1_isBlank 35 = .ok (.ireturn, 1) := by decide +kernel
theorem dX1_byteAt_0 : decode cX1_byteAt 0 = .ok (.iload_n 1, 1) := by decide +kernel
theorem dX1_byteAt_1 : decode cX1_byteAt 1 = .ok (.iload_n 2, 1) := by decide +kernel
theorem dX1_byteAt_2 : decode cX1_byteAt 2 = .ok (.if_icmp .ge 13, 3) := by decide +kernel
theorem dX1_byteAt_5 : decode cX1_byteAt 5 = .ok (.aload_n 0, 1) := by decide +kernel
theorem dX1_byteAt_6 : decode cX1_byteAt 6 = .ok (.iload_n 1, 1) := by decide +kernel
theorem dX1_byteAt_7 : decode cX1_byteAt 7 = .ok (.baload, 1) := by decide +kernel
theorem dX1_byteAt_8 : decode cX1_byteAt 8 = .ok (.sipush 255, 3) := by decide +kernel
theorem dX1_byteAt_11 : decode cX1_byteAt 11 = .ok (.iand, 1) := by decide +kernel
theorem dX1_byteAt_12 : decode cX1_byteAt 12 = .ok (.goto 4, 3) := by decide +kernel
theorem dX1_byteAt_15 : decode cX1_byteAt 15 = .ok (.iconst (-1), 1) := by decide +kernel
theorem dX1_byteAt_16 : decode cX1_byteAt 16 = .ok (.ireturn, 1) := by decide +kernel
theorem dX1_quotedEnd_0 : decode cX1_quotedEnd 0 = .ok (.aload_n 0, 1) := by decide +kernel
theorem dX1_quotedEnd_1 : decode cX1_quotedEnd 1 = .ok (.getfield 14, 3) := by decide +kernel
theorem dX1_quotedEnd_4 : decode cX1_quotedEnd 4 = .ok (.iload_n 1, 1) := by decide +kernel
theorem dX1_quotedEnd_5 : decode cX1_quotedEnd 5 = .ok (.baload, 1) := by decide +kernel
theorem dX1_quotedEnd_6 : decode cX1_quotedEnd 6 = .ok (.sipush 255, 3) := by decide +kernel
theorem dX1_quotedEnd_9 : decode cX1_quotedEnd 9 = .ok (.iand, 1) := by decide +kernel
theorem dX1_quotedEnd_10 : decode cX1_quotedEnd 10 = .ok (.istore_n 3, 1) := by decide +kernel
theorem dX1_quotedEnd_11 : decode cX1_quotedEnd 11 = .ok (.iload_n 1, 1) := by decide +kernel
theorem dX1_quotedEnd_12 : decode cX1_quotedEnd 12 = .ok (.iconst 1, 1) := by decide +kernel
theorem dX1_quotedEnd_13 : decode cX1_quotedEnd 13 = .ok (.iadd, 1) := by decide +kernel
theorem dX1_quotedEnd_14 : decode cX1_quotedEnd 14 = .ok (.istore 4, 2) := by decide +kernel
theorem dX1_quotedEnd_16 : decode cX1_quotedEnd 16 = .ok (.iload 4, 2) := by decide +kernel
theorem dX1_quotedEnd_18 : decode cX1_quotedEnd 18 = .ok (.iload_n 2, 1) := by decide +kernel
theorem dX1_quotedEnd_19 : decode cX1_quotedEnd 19 = .ok (.if_icmp .ge 80, 3) := by decide +kernel
theorem dX1_quotedEnd_22 : decode cX1_quotedEnd 22 = .ok (.aload_n 0, 1) := by decide +kernel
theorem dX1_quotedEnd_23 : decode cX1_quotedEnd 23 = .ok (.getfield 14, 3) := by decide +kernel
theorem dX1_quotedEnd_26 : decode cX1_quotedEnd 26 = .ok (.iload 4, 2) := by decide +kernel
theorem dX1_quotedEnd_28 : decode cX1_quotedEnd 28 = .ok (.baload, 1) := by decide +kernel
theorem dX1_quotedEnd_29 : decode cX1_quotedEnd 29 = .ok (.bipush 10, 2) := by decide +kernel
theorem dX1_quotedEnd_31 : decode cX1_quotedEnd 31 = .ok (.if_icmp .eq 68, 3) := by decide +kernel
theorem dX1_quotedEnd_34 : decode cX1_quotedEnd 34 = .ok (.aload_n 0, 1) := by decide +kernel
theorem dX1_quotedEnd_35 : decode cX1_quotedEnd 35 = .ok (.getfield 14, 3) := by decide +kernel
theorem dX1_quotedEnd_38 : decode cX1_quotedEnd 38 = .ok (.iload 4, 2) := by decide +kernel
theorem dX1_quotedEnd_40 : decode cX1_quotedEnd 40 = .ok (.baload, 1) := by decide +kernel
theorem dX1_quotedEnd_41 : decode cX1_quotedEnd 41 = .ok (.sipush 255, 3) := by decide +kernel
theorem dX1_quotedEnd_44 : decode cX1_quotedEnd 44 = .ok (.iand, 1) := by decide +kernel
theorem dX1_quotedEnd_45 : decode cX1_quotedEnd 45 = .ok (.iload_n 3, 1) := by decide +kernel
theorem dX1_quotedEnd_46 : decode cX1_quotedEnd 46 = .ok (.if_icmp .eq 53, 3) := by decide +kernel
theorem dX1_quotedEnd_49 : decode cX1_quotedEnd 49 = .ok (.aload_n 0, 1) := by decide +kernel
theorem dX1_quotedEnd_50 : decode cX1_quotedEnd 50 = .ok (.getfield 14, 3) := by decide +kernel
theorem dX1_quotedEnd_53 : decode cX1_quotedEnd 53 = .ok (.iload 4, 2) := by decide +kernel
theorem dX1_quotedEnd_55 : decode cX1_quotedEnd 55 = .ok (.baload, 1) := by decide +kernel
theorem dX1_quotedEnd_56 : decode cX1_quotedEnd 56 = .ok (.bipush 92, 2) := by decide +kernel
theorem dX1_quotedEnd_58 : decode cX1_quotedEnd 58 = .ok (.if_icmp .ne 32, 3) := by decide +kernel
theorem dX1_quotedEnd_61 : decode cX1_quotedEnd 61 = .ok (.iload 4, 2) := by decide +kernel
theorem dX1_quotedEnd_63 : decode cX1_quotedEnd 63 = .ok (.iconst 1, 1) := by decide +kernel
theorem dX1_quotedEnd_64 : decode cX1_quotedEnd 64 = .ok (.iadd, 1) := by decide +kernel
theorem dX1_quotedEnd_65 : decode cX1_quotedEnd 65 = .ok (.iload_n 2, 1) := by decide +kernel
theorem dX1_quotedEnd_66 : decode cX1_quotedEnd 66 = .ok (.if_icmp .ge 24, 3) := by decide +kernel
theorem dX1_quotedEnd_69 : decode cX1_quotedEnd 69 = .ok (.aload_n 0, 1) := by decide +kernel
theorem dX1_quotedEnd_70 : decode cX1_quotedEnd 70 = .ok (.getfield 14, 3) := by decide +kernel
theorem dX1_quotedEnd_73 : decode cX1_quotedEnd 73 = .ok (.iload 4, 2) := by decide +kernel
theorem dX1_quotedEnd_75 : decode cX1_quotedEnd 75 = .ok (.iconst 1, 1) := by decide +kernel
theorem dX1_quotedEnd_76 : decode cX1_quotedEnd 76 = .ok (.iadd, 1) := by decide +kernel
theorem dX1_quotedEnd_77 : decode cX1_quotedEnd 77 = .ok (.baload, 1) := by decide +kernel
theorem dX1_quotedEnd_78 : decode cX1_quotedEnd 78 = .ok (.bipush 10, 2) := by decide +kernel
theorem dX1_quotedEnd_80 : decode cX1_quotedEnd 80 = .ok (.if_icmp .eq 10, 3) := by decide +kernel
theorem dX1_quotedEnd_83 : decode cX1_quotedEnd 83 = .ok (.iload 4, 2) := by decide +kernel
theorem dX1_quotedEnd_85 : decode cX1_quotedEnd 85 = .ok (.iconst 2, 1) := by decide +kernel
theorem dX1_quotedEnd_86 : decode cX1_quotedEnd 86 = .ok (.iadd, 1) := by decide +kernel
theorem dX1_quotedEnd_87 : decode cX1_quotedEnd 87 = .ok (.goto 7, 3) := by decide +kernel
theorem dX1_quotedEnd_90 : decode cX1_quotedEnd 90 = .ok (.iload 4, 2) := by decide +kernel
theorem dX1_quotedEnd_92 : decode cX1_quotedEnd 92 = .ok (.iconst 1, 1) := by decide +kernel
theorem dX1_quotedEnd_93 : decode cX1_quotedEnd 93 = .ok (.iadd, 1) := by decide +kernel
theorem dX1_quotedEnd_94 : decode cX1_quotedEnd 94 = .ok (.istore 4, 2) := by decide +kernel
theorem dX1_quotedEnd_96 : decode cX1_quotedEnd 96 = .ok (.goto (-80), 3) := by decide +kernel
theorem dX1_quotedEnd_99 : decode cX1_quotedEnd 99 = .ok (.iload 4, 2) := by decide +kernel
theorem dX1_quotedEnd_101 : decode cX1_quotedEnd 101 = .ok (.iload_n 2, 1) := by decide +kernel
theorem dX1_quotedEnd_102 : decode cX1_quotedEnd 102 = .ok (.if_icmp .ge 25, 3) := by decide +kernel
theorem dX1_quotedEnd_105 : decode cX1_quotedEnd 105 = .ok (.aload_n 0, 1) := by decide +kernel
theorem dX1_quotedEnd_106 : decode cX1_quotedEnd 106 = .ok (.getfield 14, 3) := by decide +kernel
theorem dX1_quotedEnd_109 : decode cX1_quotedEnd 109 = .ok (.iload 4, 2) := by decide +kernel
theorem dX1_quotedEnd_111 : decode cX1_quotedEnd 111 = .ok (.baload, 1) := by decide +kernel
theorem dX1_quotedEnd_112 : decode cX1_quotedEnd 112 = .ok (.sipush 255, 3) := by decide +kernel
theorem dX1_quotedEnd_115 : decode cX1_quotedEnd 115 = .ok (.iand, 1) := by decide +kernel
theorem dX1_quotedEnd_116 : decode cX1_quotedEnd 116 = .ok (.iload_n 3, 1) := by decide +kernel
theorem dX1_quotedEnd_117 : decode cX1_quotedEnd 117 = .ok (.if_icmp .ne 10, 3) := by decide +kernel
theorem dX1_quotedEnd_120 : decode cX1_quotedEnd 120 = .ok (.iload 4, 2) := by decide +kernel
theorem dX1_quotedEnd_122 : decode cX1_quotedEnd 122 = .ok (.iconst 1, 1) := by decide +kernel
theorem dX1_quotedEnd_123 : decode cX1_quotedEnd 123 = .ok (.iadd, 1) := by decide +kernel
theorem dX1_quotedEnd_124 : decode cX1_quotedEnd 124 = .ok (.goto 4, 3) := by decide +kernel
theorem dX1_quotedEnd_127 : decode cX1_quotedEnd 127 = .ok (.iconst (-1), 1) := by decide +kernel
theorem dX1_quotedEnd_128 : decode cX1_quotedEnd 128 = .ok (.ireturn, 1) := by decide +kernel
theorem dX1_isOneOf_0 : decode cX1_isOneOf 0 = .ok (.iconst 0, 1) := by decide +kernel
theorem dX1_isOneOf_1 : decode cX1_isOneOf 1 = .ok (.istore_n 2, 1) := by decide +kernel
theorem dX1_isOneOf_2 : decode cX1_isOneOf 2 = .ok (.iconst 0, 1) := by decide +kernel
theorem dX1_isOneOf_3 : decode cX1_isOneOf 3 = .ok (.istore_n 3, 1) := by decide +kernel
theorem dX1_isOneOf_4 : decode cX1_isOneOf 4 = .ok (.iload_n 3, 1) := by decide +kernel
theorem dX1_isOneOf_5 : decode cX1_isOneOf 5 = .ok (.aload_n 1, 1) := by decide +kernel
theorem dX1_isOneOf_6 : decode cX1_isOneOf 6 = .ok (.invokevirtual 69, 3) := by decide +kernel
theorem dX1_isOneOf_9 : decode cX1_isOneOf 9 = .ok (.if_icmp .ge 28, 3) := by decide +kernel
theorem dX1_isOneOf_12 : decode cX1_isOneOf 12 = .ok (.iload_n 2, 1) := by decide +kernel
theorem dX1_isOneOf_13 : decode cX1_isOneOf 13 = .ok (.ifCond .ne 12, 3) := by decide +kernel
theorem dX1_isOneOf_16 : decode cX1_isOneOf 16 = .ok (.iload_n 0, 1) := by decide +kernel
theorem dX1_isOneOf_17 : decode cX1_isOneOf 17 = .ok (.aload_n 1, 1) := by decide +kernel
theorem dX1_isOneOf_18 : decode cX1_isOneOf 18 = .ok (.iload_n 3, 1) := by decide +kernel
theorem dX1_isOneOf_19 : decode cX1_isOneOf 19 = .ok (.invokevirtual 75, 3) := by decide +kernel
theorem dX1_isOneOf_22 : decode cX1_isOneOf 22 = .ok (.if_icmp .ne 7, 3) := by decide +kernel
theorem dX1_isOneOf_25 : decode cX1_isOneOf 25 = .ok (.iconst 1, 1) := by decide +kernel
theorem dX1_isOneOf_26 : decode cX1_isOneOf 26 = .ok (.goto 4, 3) := by decide +kernel
theorem dX1_isOneOf_29 : decode cX1_isOneOf 29 = .ok (.iconst 0, 1) := by decide +kernel
theorem dX1_isOneOf_30 : decode cX1_isOneOf 30 = .ok (.istore_n 2, 1) := by decide +kernel
theorem dX1_isOneOf_31 : decode cX1_isOneOf 31 = .ok (.iinc 3 1, 3) := by decide +kernel
theorem dX1_isOneOf_34 : decode cX1_isOneOf 34 = .ok (.goto (-30), 3) := by decide +kernel
theorem dX1_isOneOf_37 : decode cX1_isOneOf 37 = .ok (.iload_n 2, 1) := by decide +kernel
theorem dX1_isOneOf_38 : decode cX1_isOneOf 38 = .ok (.ireturn, 1) := by decide +kernel
theorem dX1_signSize_0 : decode cX1_signSize 0 = .ok (.aload_n 0, 1) := by decide +kernel
theorem dX1_signSize_1 : decode cX1_signSize 1 = .ok (.getfield 14, 3) := by decide +kernel
theorem dX1_signSize_4 : decode cX1_signSize 4 = .ok (.iload_n 1, 1) := by decide +kernel
theorem dX1_signSize_5 : decode cX1_signSize 5 = .ok (.iload_n 2, 1) := by decide +kernel
theorem dX1_signSize_6 : decode cX1_signSize 6 = .ok (.invokestatic 79, 3) := by decide +kernel
theorem dX1_signSize_9 : decode cX1_signSize 9 = .ok (.istore_n 3, 1) := by decide +kernel
theorem dX1_signSize_10 : decode cX1_signSize 10 = .ok (.aload_n 0, 1) := by decide +kernel
theorem dX1_signSize_11 : decode cX1_signSize 11 = .ok (.getfield 14, 3) := by decide +kernel
theorem dX1_signSize_14 : decode cX1_signSize 14 = .ok (.iload_n 1, 1) := by decide +kernel
theorem dX1_signSize_15 : decode cX1_signSize 15 = .ok (.iconst 1, 1) := by decide +kernel
theorem dX1_signSize_16 : decode cX1_signSize 16 = .ok (.iadd, 1) := by decide +kernel
theorem dX1_signSize_17 : decode cX1_signSize 17 = .ok (.iload_n 2, 1) := by decide +kernel
theorem dX1_signSize_18 : decode cX1_signSize 18 = .ok (.invokestatic 79, 3) := by decide +kernel
theorem dX1_signSize_21 : decode cX1_signSize 21 = .ok (.istore 4, 2) := by decide +kernel
theorem dX1_signSize_23 : decode cX1_signSize 23 = .ok (.aload_n 0, 1) := by decide +kernel
theorem dX1_signSize_24 : decode cX1_signSize 24 = .ok (.getfield 14, 3) := by decide +kernel
theorem dX1_signSize_27 : decode cX1_signSize 27 = .ok (.iload_n 1, 1) := by decide +kernel
theorem dX1_signSize_28 : decode cX1_signSize 28 = .ok (.iconst 2, 1) := by decide +kernel
theorem dX1_signSize_29 : decode cX1_signSize 29 = .ok (.iadd, 1) := by decide +kernel
theorem dX1_signSize_30 : decode cX1_signSize 30 = .ok (.iload_n 2, 1) := by decide +kernel
theorem dX1_signSize_31 : decode cX1_signSize 31 = .ok (.invokestatic 79, 3) := by decide +kernel
theorem dX1_signSize_34 : decode cX1_signSize 34 = .ok (.istore 5, 2) := by decide +kernel
theorem dX1_signSize_36 : decode cX1_signSize 36 = .ok (.iload_n 3, 1) := by decide +kernel
theorem dX1_signSize_37 : decode cX1_signSize 37 = .ok (.bipush 46, 2) := by decide +kernel
theorem dX1_signSize_39 : decode cX1_signSize 39 = .ok (.if_icmp .ne 17, 3) := by decide +kernel
theorem dX1_signSize_42 : decode cX1_signSize 42 = .ok (.iload 4, 2) := by decide +kernel
theorem dX1_signSize_44 : decode cX1_signSize 44 = .ok (.bipush 46, 2) := by decide +kernel
theorem dX1_signSize_46 : decode cX1_signSize 46 = .ok (.if_icmp .ne 10, 3) := by decide +kernel
theorem dX1_signSize_49 : decode cX1_signSize 49 = .ok (.iload 5, 2) := by decide +kernel
theorem dX1_signSize_51 : decode cX1_signSize 51 = .ok (.bipush 46, 2) := by decide +kernel
theorem dX1_signSize_53 : decode cX1_signSize 53 = .ok (.if_icmp .eq 28, 3) := by decide +kernel
theorem dX1_signSize_56 : decode cX1_signSize 56 = .ok (.iload_n 3, 1) := by decide +kernel
theorem dX1_signSize_57 : decode cX1_signSize 57 = .ok (.bipush 60, 2) := by decide +kernel
theorem dX1_signSize_59 : decode cX1_signSize 59 = .ok (.if_icmp .eq 9, 3) := by decide +kernel
theorem dX1_signSize_62 : decode cX1_signSize 62 = .ok (.iload_n 3, 1) := by decide +kernel
theorem dX1_signSize_63 : decode cX1_signSize 63 = .ok (.bipush 62, 2) := by decide +kernel
theorem dX1_signSize_65 : decode cX1_signSize 65 = .ok (.if_icmp .ne 18, 3) := by decide +kernel
theorem dX1_signSize_68 : decode cX1_signSize 68 = .ok (.iload 4, 2) := by decide +kernel
theorem dX1_signSize_70 : decode cX1_signSize 70 = .ok (.iload_n 3, 1) := by decide +kernel
theorem dX1_signSize_71 : decode cX1_signSize 71 = .ok (.if_icmp .ne 12, 3) := by decide +kernel
theorem dX1_signSize_74 : decode cX1_signSize 74 = .ok (.iload 5, 2) := by decide +kernel
theorem dX1_signSize_76 : decode cX1_signSize 76 = .ok (.bipush 61, 2) := by decide +kernel
theorem dX1_signSize_78 : decode cX1_signSize 78 = .ok (.if_icmp .ne 5, 3) := by decide +kernel
theorem dX1_signSize_81 : decode cX1_signSize 81 = .ok (.iconst 3, 1) := by decide +kernel
theorem dX1_signSize_82 : decode cX1_signSize 82 = .ok (.ireturn, 1) := by decide +kernel
theorem dX1_signSize_83 : decode cX1_signSize 83 = .ok (.iload_n 3, 1) := by decide +kernel
theorem dX1_signSize_84 : decode cX1_signSize 84 = .ok (.iload 4, 2) := by decide +kernel
theorem dX1_signSize_86 : decode cX1_signSize 86 = .ok (.if_icmp .ne 16, 3) := by decide +kernel
theorem dX1_signSize_89 : decode cX1_signSize 89 = .ok (.iload_n 3, 1) := by decide +kernel
theorem dX1_signSize_90 : decode cX1_signSize 90 = .ok (.ldc 83, 2) := by decide +kernel
theorem dX1_signSize_92 : decode cX1_signSize 92 = .ok (.invokestatic 85, 3) := by decide +kernel
theorem dX1_signSize_95 : decode cX1_signSize 95 = .ok (.ifCond .eq 7, 3) := by decide +kernel
theorem dX1_signSize_98 : decode cX1_signSize 98 = .ok (.iconst 1, 1) := by decide +kernel
theorem dX1_signSize_99 : decode cX1_signSize 99 = .ok (.goto 4, 3) := by decide +kernel
theorem dX1_signSize_102 : decode cX1_signSize 102 = .ok (.iconst 0, 1) := by decide +kernel
theorem dX1_signSize_103 : decode cX1_signSize 103 = .ok (.istore 6, 2) := by decide +kernel
theorem dX1_signSize_105 : decode cX1_signSize 105 = .ok (.iload 4, 2) := by decide +kernel
theorem dX1_signSize_107 : decode cX1_signSize 107 = .ok (.bipush 61, 2) := by decide +kernel
theorem dX1_signSize_109 : decode cX1_signSize 109 = .ok (.if_icmp .ne 16, 3) := by decide +kernel
theorem dX1_signSize_112 : decode cX1_signSize 112 = .ok (.iload_n 3, 1) := by decide +kernel
theorem dX1_signSize_113 : decode cX1_signSize 113 = .ok (.ldc 89, 2) := by decide +kernel
theorem dX1_signSize_115 : decode cX1_signSize 115 = .ok (.invokestatic 85, 3) := by decide +kernel
theorem dX1_signSize_118 : decode cX1_signSize 118 = .ok (.ifCond .eq 7, 3) := by decide +kernel
theorem dX1_signSize_121 : decode cX1_signSize 121 = .ok (.iconst 1, 1) := by decide +kernel
theorem dX1_signSize_122 : decode cX1_signSize 122 = .ok (.goto 4, 3) := by decide +kernel
theorem dX1_signSize_125 : decode cX1_signSize 125 = .ok (.iconst 0, 1) := by decide +kernel
theorem dX1_signSize_126 : decode cX1_signSize 126 = .ok (.istore 7, 2) := by decide +kernel
theorem dX1_signSize_128 : decode cX1_signSize 128 = .ok (.iload 6, 2) := by decide +kernel
theorem dX1_signSize_130 : decode cX1_signSize 130 = .ok (.ifCond .ne 21, 3) := by decide +kernel
theorem dX1_signSize_133 : decode cX1_signSize 133 = .ok (.iload 7, 2) := by decide +kernel
theorem dX1_signSize_135 : decode cX1_signSize 135 = .ok (.ifCond .ne 16, 3) := by decide +kernel
theorem dX1_signSize_138 : decode cX1_signSize 138 = .ok (.iload_n 3, 1) := by decide +kernel
theorem dX1_signSize_139 : decode cX1_signSize 139 = .ok (.bipush 45, 2) := by decide +kernel
theorem dX1_signSize_141 : decode cX1_signSize 141 = .ok (.if_icmp .ne 14, 3) := by decide +kernel
theorem dX1_signSize_144 : decode cX1_signSize 144 = .ok (.iload 4, 2) := by decide +kernel
theorem dX1_signSize_146 : decode cX1_signSize 146 = .ok (.bipush 62, 2) := by decide +kernel
theorem dX1_signSize_148 : decode cX1_signSize 148 = .ok (.if_icmp .ne 7, 3) := by decide +kernel
theorem dX1_signSize_151 : decode cX1_signSize 151 = .ok (.iconst 2, 1) := by decide +kernel
theorem dX1_signSize_152 : decode cX1_signSize 152 = .ok (.goto 4, 3) := by decide +kernel
theorem dX1_signSize_155 : decode cX1_signSize 155 = .ok (.iconst 1, 1) := by decide +kernel
theorem dX1_signSize_156 : decode cX1_signSize 156 = .ok (.ireturn, 1) := by decide +kernel
theorem dX1_tokenSizeAt_0 : decode cX1_tokenSizeAt 0 = .ok (.aload_n 0, 1) := by decide +kernel
theorem dX1_tokenSizeAt_1 : decode cX1_tokenSizeAt 1 = .ok (.getfield 14, 3) := by decide +kernel
theorem dX1_tokenSizeAt_4 : decode cX1_tokenSizeAt 4 = .ok (.iload_n 1, 1) := by decide +kernel
theorem dX1_tokenSizeAt_5 : decode cX1_tokenSizeAt 5 = .ok (.iload_n 2, 1) := by decide +kernel
theorem dX1_tokenSizeAt_6 : decode cX1_tokenSizeAt 6 = .ok (.invokestatic 79, 3) := by decide +kernel
theorem dX1_tokenSizeAt_9 : decode cX1_tokenSizeAt 9 = .ok (.istore_n 3, 1) := by decide +kernel
theorem dX1_tokenSizeAt_10 : decode cX1_tokenSizeAt 10 = .ok (.aload_n 0, 1) := by decide +kernel
theorem dX1_tokenSizeAt_11 : decode cX1_tokenSizeAt 11 = .ok (.getfield 14, 3) := by decide +kernel
theorem dX1_tokenSizeAt_14 : decode cX1_tokenSizeAt 14 = .ok (.iload_n 1, 1) := by decide +kernel
theorem dX1_tokenSizeAt_15 : decode cX1_tokenSizeAt 15 = .ok (.iconst 1, 1) := by decide +kernel
theorem dX1_tokenSizeAt_16 : decode cX1_tokenSizeAt 16 = .ok (.iadd, 1) := by decide +kernel
theorem dX1_tokenSizeAt_17 : decode cX1_tokenSizeAt 17 = .ok (.iload_n 2, 1) := by decide +kernel
theorem dX1_tokenSizeAt_18 : decode cX1_tokenSizeAt 18 = .ok (.invokestatic 79, 3) := by decide +kernel
theorem dX1_tokenSizeAt_21 : decode cX1_tokenSizeAt 21 = .ok (.istore 4, 2) := by decide +kernel
theorem dX1_tokenSizeAt_23 : decode cX1_tokenSizeAt 23 = .ok (.iload_n 3, 1) := by decide +kernel
theorem dX1_tokenSizeAt_24 : decode cX1_tokenSizeAt 24 = .ok (.bipush 76, 2) := by decide +kernel
theorem dX1_tokenSizeAt_26 : decode cX1_tokenSizeAt 26 = .ok (.if_icmp .ne 39, 3) := by decide +kernel
theorem dX1_tokenSizeAt_29 : decode cX1_tokenSizeAt 29 = .ok (.iload 4, 2) := by decide +kernel
theorem dX1_tokenSizeAt_31 : decode cX1_tokenSizeAt 31 = .ok (.bipush 34, 2) := by decide +kernel
theorem dX1_tokenSizeAt_33 : decode cX1_tokenSizeAt 33 = .ok (.if_icmp .eq 10, 3) := by decide +kernel
theorem dX1_tokenSizeAt_36 : decode cX1_tokenSizeAt 36 = .ok (.iload 4, 2) := by decide +kernel
theorem dX1_tokenSizeAt_38 : decode cX1_tokenSizeAt 38 = .ok (.bipush 39, 2) := by decide +kernel
theorem dX1_tokenSizeAt_40 : decode cX1_tokenSizeAt 40 = .ok (.if_icmp .ne 25, 3) := by decide +kernel
theorem dX1_tokenSizeAt_43 : decode cX1_tokenSizeAt 43 = .ok (.aload_n 0, 1) := by decide +kernel
theorem dX1_tokenSizeAt_44 : decode cX1_tokenSizeAt 44 = .ok (.iload_n 1, 1) := by decide +kernel
theorem dX1_tokenSizeAt_45 : decode cX1_tokenSizeAt 45 = .ok (.iconst 1, 1) := by decide +kernel
theorem dX1_tokenSizeAt_46 : decode cX1_tokenSizeAt 46 = .ok (.iadd, 1) := by decide +kernel
theorem dX1_tokenSizeAt_47 : decode cX1_tokenSizeAt 47 = .ok (.iload_n 2, 1) := by decide +kernel
theorem dX1_tokenSizeAt_48 : decode cX1_tokenSizeAt 48 = .ok (.invokevirtual 91, 3) := by decide +kernel
theorem dX1_tokenSizeAt_51 : decode cX1_tokenSizeAt 51 = .ok (.ifCond .le 14, 3) := by decide +kernel
theorem dX1_tokenSizeAt_54 : decode cX1_tokenSizeAt 54 = .ok (.aload_n 0, 1) := by decide +kernel
theorem dX1_tokenSizeAt_55 : decode cX1_tokenSizeAt 55 = .ok (.iload_n 1, 1) := by decide +kernel
theorem dX1_tokenSizeAt_56 : decode cX1_tokenSizeAt 56 = .ok (.iconst 1, 1) := by decide +kernel
theorem dX1_tokenSizeAt_57 : decode cX1_tokenSizeAt 57 = .ok (.iadd, 1) := by decide +kernel
theorem dX1_tokenSizeAt_58 : decode cX1_tokenSizeAt 58 = .ok (.iload_n 2, 1) := by decide +kernel
theorem dX1_tokenSizeAt_59 : decode cX1_tokenSizeAt 59 = .ok (.invokevirtual 91, 3) := by decide +kernel
theorem dX1_tokenSizeAt_62 : decode cX1_tokenSizeAt 62 = .ok (.iload_n 1, 1) := by decide +kernel
theorem dX1_tokenSizeAt_63 : decode cX1_tokenSizeAt 63 = .ok (.isub, 1) := by decide +kernel
theorem dX1_tokenSizeAt_64 : decode cX1_tokenSizeAt 64 = .ok (.ireturn, 1) := by decide +kernel
theorem dX1_tokenSizeAt_65 : decode cX1_tokenSizeAt 65 = .ok (.iload_n 3, 1) := by decide +kernel
theorem dX1_tokenSizeAt_66 : decode cX1_tokenSizeAt 66 = .ok (.bipush 34, 2) := by decide +kernel
theorem dX1_tokenSizeAt_68 : decode cX1_tokenSizeAt 68 = .ok (.if_icmp .eq 9, 3) := by decide +kernel
theorem dX1_tokenSizeAt_71 : decode cX1_tokenSizeAt 71 = .ok (.iload_n 3, 1) := by decide +kernel
theorem dX1_tokenSizeAt_72 : decode cX1_tokenSizeAt 72 = .ok (.bipush 39, 2) := by decide +kernel
theorem dX1_tokenSizeAt_74 : decode cX1_tokenSizeAt 74 = .ok (.if_icmp .ne 21, 3) := by decide +kernel
theorem dX1_tokenSizeAt_77 : decode cX1_tokenSizeAt 77 = .ok (.aload_n 0, 1) := by decide +kernel
theorem dX1_tokenSizeAt_78 : decode cX1_tokenSizeAt 78 = .ok (.iload_n 1, 1) := by decide +kernel
theorem dX1_tokenSizeAt_79 : decode cX1_tokenSizeAt 79 = .ok (.iload_n 2, 1) := by decide +kernel
theorem dX1_tokenSizeAt_80 : decode cX1_tokenSizeAt 80 = .ok (.invokevirtual 91, 3) := by decide +kernel
theorem dX1_tokenSizeAt_83 : decode cX1_tokenSizeAt 83 = .ok (.ifCond .le 12, 3) := by decide +kernel
theorem dX1_tokenSizeAt_86 : decode cX1_tokenSizeAt 86 = .ok (.aload_n 0, 1) := by decide +kernel
theorem dX1_tokenSizeAt_87 : decode cX1_tokenSizeAt 87 = .ok (.iload_n 1, 1) := by decide +kernel
theorem dX1_tokenSizeAt_88 : decode cX1_tokenSizeAt 88 = .ok (.iload_n 2, 1) := by decide +kernel
theorem dX1_tokenSizeAt_89 : decode cX1_tokenSizeAt 89 = .ok (.invokevirtual 91, 3) := by decide +kernel
theorem dX1_tokenSizeAt_92 : decode cX1_tokenSizeAt 92 = .ok (.iload_n 1, 1) := by decide +kernel
theorem dX1_tokenSizeAt_93 : decode cX1_tokenSizeAt 93 = .ok (.isub, 1) := by decide +kernel
theorem dX1_tokenSizeAt_94 : decode cX1_tokenSizeAt 94 = .ok (.ireturn, 1) := by decide +kernel
theorem dX1_tokenSizeAt_95 : decode cX1_tokenSizeAt 95 = .ok (.iload_n 1, 1) := by decide +kernel
theorem dX1_tokenSizeAt_96 : decode cX1_tokenSizeAt 96 = .ok (.iconst 1, 1) := by decide +kernel
theorem dX1_tokenSizeAt_97 : decode cX1_tokenSizeAt 97 = .ok (.iadd, 1) := by decide +kernel
theorem dX1_tokenSizeAt_98 : decode cX1_tokenSizeAt 98 = .ok (.istore 5, 2) := by decide +kernel
theorem dX1_tokenSizeAt_100 : decode cX1_tokenSizeAt 100 = .ok (.iload_n 3, 1) := by decide +kernel
theorem dX1_tokenSizeAt_101 : decode cX1_tokenSizeAt 101 = .ok (.invokestatic 95, 3) := by decide +kernel
theorem dX1_tokenSizeAt_104 : decode cX1_tokenSizeAt 104 = .ok (.ifCond .eq 46, 3) := by decide +kernel
theorem dX1_tokenSizeAt_107 : decode cX1_tokenSizeAt 107 = .ok (.aload_n 0, 1) := by decide +kernel
theorem dX1_tokenSizeAt_108 : decode cX1_tokenSizeAt 108 = .ok (.getfield 14, 3) := by decide +kernel
theorem dX1_tokenSizeAt_111 : decode cX1_tokenSizeAt 111 = .ok (.iload 5, 2) := by decide +kernel
theorem dX1_tokenSizeAt_113 : decode cX1_tokenSizeAt 113 = .ok (.iload_n 2, 1) := by decide +kernel
theorem dX1_tokenSizeAt_114 : decode cX1_tokenSizeAt 114 = .ok (.invokestatic 79, 3) := by decide +kernel
theorem dX1_tokenSizeAt_117 : decode cX1_tokenSizeAt 117 = .ok (.invokestatic 95, 3) := by decide +kernel
theorem dX1_tokenSizeAt_120 : decode cX1_tokenSizeAt 120 = .ok (.ifCond .ne 19, 3) := by decide +kernel
theorem dX1_tokenSizeAt_123 : decode cX1_tokenSizeAt 123 = .ok (.aload_n 0, 1) := by decide +kernel
theorem dX1_tokenSizeAt_124 : decode cX1_tokenSizeAt 124 = .ok (.getfield 14, 3) := by decide +kernel
theorem dX1_tokenSizeAt_127 : decode cX1_tokenSizeAt 127 = .ok (.iload 5, 2) := by decide +kernel
theorem dX1_tokenSizeAt_129 : decode cX1_tokenSizeAt 129 = .ok (.iload_n 2, 1) := by decide +kernel
theorem dX1_tokenSizeAt_130 : decode cX1_tokenSizeAt 130 = .ok (.invokestatic 79, 3) := by decide +kernel
theorem dX1_tokenSizeAt_133 : decode cX1_tokenSizeAt 133 = .ok (.invokestatic 99, 3) := by decide +kernel
theorem dX1_tokenSizeAt_136 : decode cX1_tokenSizeAt 136 = .ok (.ifCond .eq 9, 3) := by decide +kernel
theorem dX1_tokenSizeAt_139 : decode cX1_tokenSizeAt 139 = .ok (.iinc 5 1, 3) := by decide +kernel
theorem dX1_tokenSizeAt_142 : decode cX1_tokenSizeAt 142 = .ok (.goto (-35), 3) := by decide +kernel
theorem dX1_tokenSizeAt_145 : decode cX1_tokenSizeAt 145 = .ok (.iload 5, 2) := by decide +kernel
theorem dX1_tokenSizeAt_147 : decode cX1_tokenSizeAt 147 = .ok (.iload_n 1, 1) := by decide +kernel
theorem dX1_tokenSizeAt_148 : decode cX1_tokenSizeAt 148 = .ok (.isub, 1) := by decide +kernel
theorem dX1_tokenSizeAt_149 : decode cX1_tokenSizeAt 149 = .ok (.ireturn, 1) := by decide +kernel
theorem dX1_tokenSizeAt_150 : decode cX1_tokenSizeAt 150 = .ok (.iload_n 3, 1) := by decide +kernel
theorem dX1_tokenSizeAt_151 : decode cX1_tokenSizeAt 151 = .ok (.invokestatic 99, 3) := by decide +kernel
theorem dX1_tokenSizeAt_154 : decode cX1_tokenSizeAt 154 = .ok (.ifCond .ne 17, 3) := by decide +kernel
theorem dX1_tokenSizeAt_157 : decode cX1_tokenSizeAt 157 = .ok (.iload_n 3, 1) := by decide +kernel
theorem dX1_tokenSizeAt_158 : decode cX1_tokenSizeAt 158 = .ok (.bipush 46, 2) := by decide +kernel
theorem dX1_tokenSizeAt_160 : decode cX1_tokenSizeAt 160 = .ok (.if_icmp .ne 131, 3) := by decide +kernel
theorem dX1_tokenSizeAt_163 : decode cX1_tokenSizeAt 163 = .ok (.iload 4, 2) := by decide +kernel
theorem dX1_tokenSizeAt_165 : decode cX1_tokenSizeAt 165 = .ok (.invokestatic 99, 3) := by decide +kernel
theorem dX1_tokenSizeAt_168 : decode cX1_tokenSizeAt 168 = .ok (.ifCond .eq 123, 3) := by decide +kernel
theorem dX1_tokenSizeAt_171 : decode cX1_tokenSizeAt 171 = .ok (.iconst 1, 1) := by decide +kernel
theorem dX1_tokenSizeAt_172 : decode cX1_tokenSizeAt 172 = .ok (.istore 6, 2) := by decide +kernel
theorem dX1_tokenSizeAt_174 : decode cX1_tokenSizeAt 174 = .ok (.iload 6, 2) := by decide +kernel
theorem dX1_tokenSizeAt_176 : decode cX1_tokenSizeAt 176 = .ok (.ifCond .eq 110, 3) := by decide +kernel
theorem dX1_tokenSizeAt_179 : decode cX1_tokenSizeAt 179 = .ok (.aload_n 0, 1) := by decide +kernel
theorem dX1_tokenSizeAt_180 : decode cX1_tokenSizeAt 180 = .ok (.getfield 14, 3) := by decide +kernel
theorem dX1_tokenSizeAt_183 : decode cX1_tokenSizeAt 183 = .ok (.iload 5, 2) := by decide +kernel
theorem dX1_tokenSizeAt_185 : decode cX1_tokenSizeAt 185 = .ok (.iload_n 2, 1) := by decide +kernel
theorem dX1_tokenSizeAt_186 : decode cX1_tokenSizeAt 186 = .ok (.invokestatic 79, 3) := by decide +kernel
theorem dX1_tokenSizeAt_189 : decode cX1_tokenSizeAt 189 = .ok (.istore 7, 2) := by decide +kernel
theorem dX1_tokenSizeAt_191 : decode cX1_tokenSizeAt 191 = .ok (.iload 7, 2) := by decide +kernel
theorem dX1_tokenSizeAt_193 : decode cX1_tokenSizeAt 193 = .ok (.bipush 43, 2) := by decide +kernel
theorem dX1_tokenSizeAt_195 : decode cX1_tokenSizeAt 195 = .ok (.if_icmp .eq 10, 3) := by decide +kernel
theorem dX1_tokenSizeAt_198 : decode cX1_tokenSizeAt 198 = .ok (.iload 7, 2) := by decide +kernel
theorem dX1_tokenSizeAt_200 : decode cX1_tokenSizeAt 200 = .ok (.bipush 45, 2) := by decide +kernel
theorem dX1_tokenSizeAt_202 : decode cX1_tokenSizeAt 202 = .ok (.if_icmp .ne 27, 3) := by decide +kernel
theorem dX1_tokenSizeAt_205 : decode cX1_tokenSizeAt 205 = .ok (.aload_n 0, 1) := by decide +kernel
theorem dX1_tokenSizeAt_206 : decode cX1_tokenSizeAt 206 = .ok (.getfield 14, 3) := by decide +kernel
theorem dX1_tokenSizeAt_209 : decode cX1_tokenSizeAt 209 = .ok (.iload 5, 2) := by decide +kernel
theorem dX1_tokenSizeAt_211 : decode cX1_tokenSizeAt 211 = .ok (.iconst 1, 1) := by decide +kernel
theorem dX1_tokenSizeAt_212 : decode cX1_tokenSizeAt 212 = .ok (.isub, 1) := by decide +kernel
theorem dX1_tokenSizeAt_213 : decode cX1_tokenSizeAt 213 = .ok (.iload_n 2, 1) := by decide +kernel
theorem dX1_tokenSizeAt_214 : decode cX1_tokenSizeAt 214 = .ok (.invokestatic 79, 3) := by decide +kernel
theorem dX1_tokenSizeAt_217 : decode cX1_tokenSizeAt 217 = .ok (.ldc 102, 2) := by decide +kernel
theorem dX1_tokenSizeAt_219 : decode cX1_tokenSizeAt 219 = .ok (.invokestatic 85, 3) := by decide +kernel
theorem dX1_tokenSizeAt_222 : decode cX1_tokenSizeAt 222 = .ok (.ifCond .eq 7, 3) := by decide +kernel
theorem dX1_tokenSizeAt_225 : decode cX1_tokenSizeAt 225 = .ok (.iconst 1, 1) := by decide +kernel
theorem dX1_tokenSizeAt_226 : decode cX1_tokenSizeAt 226 = .ok (.goto 4, 3) := by decide +kernel
theorem dX1_tokenSizeAt_229 : decode cX1_tokenSizeAt 229 = .ok (.iconst 0, 1) := by decide +kernel
theorem dX1_tokenSizeAt_230 : decode cX1_tokenSizeAt 230 = .ok (.istore 8, 2) := by decide +kernel
theorem dX1_tokenSizeAt_232 : decode cX1_tokenSizeAt 232 = .ok (.iload 7, 2) := by decide +kernel
theorem dX1_tokenSizeAt_234 : decode cX1_tokenSizeAt 234 = .ok (.invokestatic 99, 3) := by decide +kernel
theorem dX1_tokenSizeAt_237 : decode cX1_tokenSizeAt 237 = .ok (.ifCond .ne 23, 3) := by decide +kernel
theorem dX1_tokenSizeAt_240 : decode cX1_tokenSizeAt 240 = .ok (.iload 7, 2) := by decide +kernel
theorem dX1_tokenSizeAt_242 : decode cX1_tokenSizeAt 242 = .ok (.invokestatic 95, 3) := by decide +kernel
theorem dX1_tokenSizeAt_245 : decode cX1_tokenSizeAt 245 = .ok (.ifCond .ne 15, 3) := by decide +kernel
theorem dX1_tokenSizeAt_248 : decode cX1_tokenSizeAt 248 = .ok (.iload 7, 2) := by decide +kernel
theorem dX1_tokenSizeAt_250 : decode cX1_tokenSizeAt 250 = .ok (.bipush 46, 2) := by decide +kernel
theorem dX1_tokenSizeAt_252 : decode cX1_tokenSizeAt 252 = .ok (.if_icmp .eq 8, 3) := by decide +kernel
theorem dX1_tokenSizeAt_255 : decode cX1_tokenSizeAt 255 = .ok (.iload 8, 2) := by decide +kernel
theorem dX1_tokenSizeAt_257 : decode cX1_tokenSizeAt 257 = .ok (.ifCond .eq 7, 3) := by decide +kernel
theorem dX1_tokenSizeAt_260 : decode cX1_tokenSizeAt 260 = .ok (.iconst 1, 1) := by decide +kernel
theorem dX1_tokenSizeAt_261 : decode cX1_tokenSizeAt 261 = .ok (.goto 4, 3) := by decide +kernel
theorem dX1_tokenSizeAt_264 : decode cX1_tokenSizeAt 264 = .ok (.iconst 0, 1) := by decide +kernel
theorem dX1_tokenSizeAt_265 : decode cX1_tokenSizeAt 265 = .ok (.istore 6, 2) := by decide +kernel
theorem dX1_tokenSizeAt_267 : decode cX1_tokenSizeAt 267 = .ok (.iload 6, 2) := by decide +kernel
theorem dX1_tokenSizeAt_269 : decode cX1_tokenSizeAt 269 = .ok (.ifCond .eq 10, 3) := by decide +kernel
theorem dX1_tokenSizeAt_272 : decode cX1_tokenSizeAt 272 = .ok (.iload 5, 2) := by decide +kernel
theorem dX1_tokenSizeAt_274 : decode cX1_tokenSizeAt 274 = .ok (.iconst 1, 1) := by decide +kernel
theorem dX1_tokenSizeAt_275 : decode cX1_tokenSizeAt 275 = .ok (.iadd, 1) := by decide +kernel
theorem dX1_tokenSizeAt_276 : decode cX1_tokenSizeAt 276 = .ok (.goto 5, 3) := by decide +kernel
theorem dX1_tokenSizeAt_279 : decode cX1_tokenSizeAt 279 = .ok (.iload 5, 2) := by decide +kernel
theorem dX1_tokenSizeAt_281 : decode cX1_tokenSizeAt 281 = .ok (.istore 5, 2) := by decide +kernel
theorem dX1_tokenSizeAt_283 : decode cX1_tokenSizeAt 283 = .ok (.goto (-109), 3) := by decide +kernel
theorem dX1_tokenSizeAt_286 : decode cX1_tokenSizeAt 286 = .ok (.iload 5, 2) := by decide +kernel
theorem dX1_tokenSizeAt_288 : decode cX1_tokenSizeAt 288 = .ok (.iload_n 1, 1) := by decide +kernel
theorem dX1_tokenSizeAt_289 : decode cX1_tokenSizeAt 289 = .ok (.isub, 1) := by decide +kernel
theorem dX1_tokenSizeAt_290 : decode cX1_tokenSizeAt 290 = .ok (.ireturn, 1) := by decide +kernel
theorem dX1_tokenSizeAt_291 : decode cX1_tokenSizeAt 291 = .ok (.aload_n 0, 1) := by decide +kernel
theorem dX1_tokenSizeAt_292 : decode cX1_tokenSizeAt 292 = .ok (.iload_n 1, 1) := by decide +kernel
theorem dX1_tokenSizeAt_293 : decode cX1_tokenSizeAt 293 = .ok (.iload_n 2, 1) := by decide +kernel
theorem dX1_tokenSizeAt_294 : decode cX1_tokenSizeAt 294 = .ok (.invokevirtual 104, 3) := by decide +kernel
theorem dX1_tokenSizeAt_297 : decode cX1_tokenSizeAt 297 = .ok (.ireturn, 1) := by decide +kernel
theorem dX1_layDown_0 : decode cX1_layDown 0 = .ok (.aload_n 0, 1) := by decide +kernel
theorem dX1_layDown_1 : decode cX1_layDown 1 = .ok (.iconst 0, 1) := by decide +kernel
theorem dX1_layDown_2 : decode cX1_layDown 2 = .ok (.putfield 107, 3) := by decide +kernel
theorem dX1_layDown_5 : decode cX1_layDown 5 = .ok (.aload_n 0, 1) := by decide +kernel
theorem dX1_layDown_6 : decode cX1_layDown 6 = .ok (.getfield 50, 3) := by decide +kernel
theorem dX1_layDown_9 : decode cX1_layDown 9 = .ok (.istore_n 1, 1) := by decide +kernel
theorem dX1_layDown_10 : decode cX1_layDown 10 = .ok (.aload_n 0, 1) := by decide +kernel
theorem dX1_layDown_11 : decode cX1_layDown 11 = .ok (.getfield 47, 3) := by decide +kernel
theorem dX1_layDown_14 : decode cX1_layDown 14 = .ok (.istore_n 2, 1) := by decide +kernel
theorem dX1_layDown_15 : decode cX1_layDown 15 = .ok (.iload_n 2, 1) := by decide +kernel
theorem dX1_layDown_16 : decode cX1_layDown 16 = .ok (.aload_n 0, 1) := by decide +kernel
theorem dX1_layDown_17 : decode cX1_layDown 17 = .ok (.getfield 43, 3) := by decide +kernel
theorem dX1_layDown_20 : decode cX1_layDown 20 = .ok (.if_icmp .ge 117, 3) := by decide +kernel
theorem dX1_layDown_23 : decode cX1_layDown 23 = .ok (.aload_n 0, 1) := by decide +kernel
theorem dX1_layDown_24 : decode cX1_layDown 24 = .ok (.getfield 10, 3) := by decide +kernel
theorem dX1_layDown_27 : decode cX1_layDown 27 = .ok (.iload_n 2, 1) := by decide +kernel
theorem dX1_layDown_28 : decode cX1_layDown 28 = .ok (.baload, 1) := by decide +kernel
theorem dX1_layDown_29 : decode cX1_layDown 29 = .ok (.bipush 92, 2) := by decide +kernel
theorem dX1_layDown_31 : decode cX1_layDown 31 = .ok (.if_icmp .ne 36, 3) := by decide +kernel
theorem dX1_layDown_34 : decode cX1_layDown 34 = .ok (.iload_n 2, 1) := by decide +kernel
theorem dX1_layDown_35 : decode cX1_layDown 35 = .ok (.iconst 1, 1) := by decide +kernel
theorem dX1_layDown_36 : decode cX1_layDown 36 = .ok (.iadd, 1) := by decide +kernel
theorem dX1_layDown_37 : decode cX1_layDown 37 = .ok (.aload_n 0, 1) := by decide +kernel
theorem dX1_layDown_38 : decode cX1_layDown 38 = .ok (.getfield 43, 3) := by decide +kernel
theorem dX1_layDown_41 : decode cX1_layDown 41 = .ok (.if_icmp .ge 26, 3) := by decide +kernel
theorem dX1_layDown_44 : decode cX1_layDown 44 = .ok (.aload_n 0, 1) := by decide +kernel
theorem dX1_layDown_45 : decode cX1_layDown 45 = .ok (.getfield 10, 3) := by decide +kernel
theorem dX1_layDown_48 : decode cX1_layDown 48 = .ok (.iload_n 2, 1) := by decide +kernel
theorem dX1_layDown_49 : decode cX1_layDown 49 = .ok (.iconst 1, 1) := by decide +kernel
theorem dX1_layDown_50 : decode cX1_layDown 50 = .ok (.iadd, 1) := by decide +kernel
theorem dX1_layDown_51 : decode cX1_layDown 51 = .ok (.baload, 1) := by decide +kernel
theorem dX1_layDown_52 : decode cX1_layDown 52 = .ok (.bipush 10, 2) := by decide +kernel
theorem dX1_layDown_54 : decode cX1_layDown 54 = .ok (.if_icmp .ne 13, 3) := by decide +kernel
theorem dX1_layDown_57 : decode cX1_layDown 57 = .ok (.iinc 1 1, 3) := by decide +kernel
theorem dX1_layDown_60 : decode cX1_layDown 60 = .ok (.iload_n 2, 1) := by decide +kernel
theorem dX1_layDown_61 : decode cX1_layDown 61 = .ok (.iconst 2, 1) := by decide +kernel
theorem dX1_layDown_62 : decode cX1_layDown 62 = .ok (.iadd, 1) := by decide +kernel
theorem dX1_layDown_63 : decode cX1_layDown 63 = .ok (.istore_n 2, 1) := by decide +kernel
theorem dX1_layDown_64 : decode cX1_layDown 64 = .ok (.goto (-49), 3) := by decide +kernel
theorem dX1_layDown_67 : decode cX1_layDown 67 = .ok (.aload_n 0, 1) := by decide +kernel
theorem dX1_layDown_68 : decode cX1_layDown 68 = .ok (.getfield 14, 3) := by decide +kernel
theorem dX1_layDown_71 : decode cX1_layDown 71 = .ok (.aload_n 0, 1) := by decide +kernel
theorem dX1_layDown_72 : decode cX1_layDown 72 = .ok (.getfield 107, 3) := by decide +kernel
theorem dX1_layDown_75 : decode cX1_layDown 75 = .ok (.aload_n 0, 1) := by decide +kernel
theorem dX1_layDown_76 : decode cX1_layDown 76 = .ok (.getfield 10, 3) := by decide +kernel
theorem dX1_layDown_79 : decode cX1_layDown 79 = .ok (.iload_n 2, 1) := by decide +kernel
theorem dX1_layDown_80 : decode cX1_layDown 80 = .ok (.baload, 1) := by decide +kernel
theorem dX1_layDown_81 : decode cX1_layDown 81 = .ok (.bastore, 1) := by decide +kernel
theorem dX1_layDown_82 : decode cX1_layDown 82 = .ok (.aload_n 0, 1) := by decide +kernel
theorem dX1_layDown_83 : decode cX1_layDown 83 = .ok (.getfield 17, 3) := by decide +kernel
theorem dX1_layDown_86 : decode cX1_layDown 86 = .ok (.aload_n 0, 1) := by decide +kernel
theorem dX1_layDown_87 : decode cX1_layDown 87 = .ok (.getfield 107, 3) := by decide +kernel
theorem dX1_layDown_90 : decode cX1_layDown 90 = .ok (.iload_n 2, 1) := by decide +kernel
theorem dX1_layDown_91 : decode cX1_layDown 91 = .ok (.iastore, 1) := by decide +kernel
theorem dX1_layDown_92 : decode cX1_layDown 92 = .ok (.aload_n 0, 1) := by decide +kernel
theorem dX1_layDown_93 : decode cX1_layDown 93 = .ok (.getfield 21, 3) := by decide +kernel
theorem dX1_layDown_96 : decode cX1_layDown 96 = .ok (.aload_n 0, 1) := by decide +kernel
theorem dX1_layDown_97 : decode cX1_layDown 97 = .ok (.getfield 107, 3) := by decide +kernel
theorem dX1_layDown_100 : decode cX1_layDown 100 = .ok (.iload_n 1, 1) := by decide +kernel
theorem dX1_layDown_101 : decode cX1_layDown 101 = .ok (.iastore, 1) := by decide +kernel
theorem dX1_layDown_102 : decode cX1_layDown 102 = .ok (.aload_n 0, 1) := by decide +kernel
theorem dX1_layDown_103 : decode cX1_layDown 103 = .ok (.dup, 1) := by decide +kernel
theorem dX1_layDown_104 : decode cX1_layDown 104 = .ok (.getfield 107, 3) := by decide +kernel
theorem dX1_layDown_107 : decode cX1_layDown 107 = .ok (.iconst 1, 1) := by decide +kernel
theorem dX1_layDown_108 : decode cX1_layDown 108 = .ok (.iadd, 1) := by decide +kernel
theorem dX1_layDown_109 : decode cX1_layDown 109 = .ok (.putfield 107, 3) := by decide +kernel
theorem dX1_layDown_112 : decode cX1_layDown 112 = .ok (.aload_n 0, 1) := by decide +kernel
theorem dX1_layDown_113 : decode cX1_layDown 113 = .ok (.getfield 10, 3) := by decide +kernel
theorem dX1_layDown_116 : decode cX1_layDown 116 = .ok (.iload_n 2, 1) := by decide +kernel
theorem dX1_layDown_117 : decode cX1_layDown 117 = .ok (.baload, 1) := by decide +kernel
theorem dX1_layDown_118 : decode cX1_layDown 118 = .ok (.bipush 10, 2) := by decide +kernel
theorem dX1_layDown_120 : decode cX1_layDown 120 = .ok (.if_icmp .ne 9, 3) := by decide +kernel
theorem dX1_layDown_123 : decode cX1_layDown 123 = .ok (.iload_n 1, 1) := by decide +kernel
theorem dX1_layDown_124 : decode cX1_layDown 124 = .ok (.iconst 1, 1) := by decide +kernel
theorem dX1_layDown_125 : decode cX1_layDown 125 = .ok (.iadd, 1) := by decide +kernel
theorem dX1_layDown_126 : decode cX1_layDown 126 = .ok (.goto 4, 3) := by decide +kernel
theorem dX1_layDown_129 : decode cX1_layDown 129 = .ok (.iload_n 1, 1) := by decide +kernel
theorem dX1_layDown_130 : decode cX1_layDown 130 = .ok (.istore_n 1, 1) := by decide +kernel
theorem dX1_layDown_131 : decode cX1_layDown 131 = .ok (.iinc 2 1, 3) := by decide +kernel
theorem dX1_layDown_134 : decode cX1_layDown 134 = .ok (.goto (-119), 3) := by decide +kernel
theorem dX1_layDown_137 : decode cX1_layDown 137 = .ok (.aload_n 0, 1) := by decide +kernel
theorem dX1_layDown_138 : decode cX1_layDown 138 = .ok (.iload_n 1, 1) := by decide +kernel
theorem dX1_layDown_139 : decode cX1_layDown 139 = .ok (.putfield 110, 3) := by decide +kernel
theorem dX1_layDown_142 : decode cX1_layDown 142 = .ok (.return_, 1) := by decide +kernel
theorem dX1_stop_0 : decode cX1_stop 0 = .ok (.aload_n 0, 1) := by decide +kernel
theorem dX1_stop_1 : decode cX1_stop 1 = .ok (.iconst 1, 1) := by decide +kernel
theorem dX1_stop_2 : decode cX1_stop 2 = .ok (.putfield 53, 3) := by decide +kernel
theorem dX1_stop_5 : decode cX1_stop 5 = .ok (.aload_n 0, 1) := by decide +kernel
theorem dX1_stop_6 : decode cX1_stop 6 = .ok (.iload_n 2, 1) := by decide +kernel
theorem dX1_stop_7 : decode cX1_stop 7 = .ok (.putfield 57, 3) := by decide +kernel
theorem dX1_stop_10 : decode cX1_stop 10 = .ok (.aload_n 0, 1) := by decide +kernel
theorem dX1_stop_11 : decode cX1_stop 11 = .ok (.iconst 0, 1) := by decide +kernel
theorem dX1_stop_12 : decode cX1_stop 12 = .ok (.putfield 66, 3) := by decide +kernel
theorem dX1_stop_15 : decode cX1_stop 15 = .ok (.bipush (-10), 2) := by decide +kernel
theorem dX1_stop_17 : decode cX1_stop 17 = .ok (.iload_n 1, 1) := by decide +kernel
theorem dX1_stop_18 : decode cX1_stop 18 = .ok (.isub, 1) := by decide +kernel
theorem dX1_stop_19 : decode cX1_stop 19 = .ok (.ireturn, 1) := by decide +kernel
theorem dX1_commentEnd_0 : decode cX1_commentEnd 0 = .ok (.iload_n 1, 1) := by decide +kernel
theorem dX1_commentEnd_1 : decode cX1_commentEnd 1 = .ok (.iconst 2, 1) := by decide +kernel
theorem dX1_commentEnd_2 : decode cX1_commentEnd 2 = .ok (.iadd, 1) := by decide +kernel
theorem dX1_commentEnd_3 : decode cX1_commentEnd 3 = .ok (.istore_n 2, 1) := by decide +kernel
theorem dX1_commentEnd_4 : decode cX1_commentEnd 4 = .ok (.iload_n 2, 1) := by decide +kernel
theorem dX1_commentEnd_5 : decode cX1_commentEnd 5 = .ok (.iconst 1, 1) := by decide +kernel
theorem dX1_commentEnd_6 : decode cX1_commentEnd 6 = .ok (.iadd, 1) := by decide +kernel
theorem dX1_commentEnd_7 : decode cX1_commentEnd 7 = .ok (.aload_n 0, 1) := by decide +kernel
theorem dX1_commentEnd_8 : decode cX1_commentEnd 8 = .ok (.getfield 107, 3) := by decide +kernel
theorem dX1_commentEnd_11 : decode cX1_commentEnd 11 = .ok (.if_icmp .ge 33, 3) := by decide +kernel
theorem dX1_commentEnd_14 : decode cX1_commentEnd 14 = .ok (.aload_n 0, 1) := by decide +kernel
theorem dX1_commentEnd_15 : decode cX1_commentEnd 15 = .ok (.getfield 14, 3) := by decide +kernel
theorem dX1_commentEnd_18 : decode cX1_commentEnd 18 = .ok (.iload_n 2, 1) := by decide +kernel
theorem dX1_commentEnd_19 : decode cX1_commentEnd 19 = .ok (.baload, 1) := by decide +kernel
theorem dX1_commentEnd_20 : decode cX1_commentEnd 20 = .ok (.bipush 42, 2) := by decide +kernel
theorem dX1_commentEnd_22 : decode cX1_commentEnd 22 = .ok (.if_icmp .ne 16, 3) := by decide +kernel
theorem dX1_commentEnd_25 : decode cX1_commentEnd 25 = .ok (.aload_n 0, 1) := by decide +kernel
theorem dX1_commentEnd_26 : decode cX1_commentEnd 26 = .ok (.getfield 14, 3) := by decide +kernel
theorem dX1_commentEnd_29 : decode cX1_commentEnd 29 = .ok (.iload_n 2, 1) := by decide +kernel
theorem dX1_commentEnd_30 : decode cX1_commentEnd 30 = .ok (.iconst 1, 1) := by decide +kernel
theorem dX1_commentEnd_31 : decode cX1_commentEnd 31 = .ok (.iadd, 1) := by decide +kernel
theorem dX1_commentEnd_32 : decode cX1_commentEnd 32 = .ok (.baload, 1) := by decide +kernel
theorem dX1_commentEnd_33 : decode cX1_commentEnd 33 = .ok (.bipush 47, 2) := by decide +kernel
theorem dX1_commentEnd_35 : decode cX1_commentEnd 35 = .ok (.if_icmp .eq 9, 3) := by decide +kernel
theorem dX1_commentEnd_38 : decode cX1_commentEnd 38 = .ok (.iinc 2 1, 3) := by decide +kernel
theorem dX1_commentEnd_41 : decode cX1_commentEnd 41 = .ok (.goto (-37), 3) := by decide +kernel
theorem dX1_commentEnd_44 : decode cX1_commentEnd 44 = .ok (.iload_n 2, 1) := by decide +kernel
theorem dX1_commentEnd_45 : decode cX1_commentEnd 45 = .ok (.iconst 1, 1) := by decide +kernel
theorem dX1_commentEnd_46 : decode cX1_commentEnd 46 = .ok (.iadd, 1) := by decide +kernel
theorem dX1_commentEnd_47 : decode cX1_commentEnd 47 = .ok (.aload_n 0, 1) := by decide +kernel
theorem dX1_commentEnd_48 : decode cX1_commentEnd 48 = .ok (.getfield 107, 3) := by decide +kernel
theorem dX1_commentEnd_51 : decode cX1_commentEnd 51 = .ok (.if_icmp .ge 9, 3) := by decide +kernel
theorem dX1_commentEnd_54 : decode cX1_commentEnd 54 = .ok (.iload_n 2, 1) := by decide +kernel
theorem dX1_commentEnd_55 : decode cX1_commentEnd 55 = .ok (.iconst 2, 1) := by decide +kernel
theorem dX1_commentEnd_56 : decode cX1_commentEnd 56 = .ok (.iadd, 1) := by decide +kernel
theorem dX1_commentEnd_57 : decode cX1_commentEnd 57 = .ok (.goto 4, 3) := by decide +kernel
theorem dX1_commentEnd_60 : decode cX1_commentEnd 60 = .ok (.iconst (-1), 1) := by decide +kernel
theorem dX1_commentEnd_61 : decode cX1_commentEnd 61 = .ok (.ireturn, 1) := by decide +kernel
theorem dX1_keep_0 : decode cX1_keep 0 = .ok (.aload_n 0, 1) := by decide +kernel
theorem dX1_keep_1 : decode cX1_keep 1 = .ok (.getfield 24, 3) := by decide +kernel
theorem dX1_keep_4 : decode cX1_keep 4 = .ok (.aload_n 0, 1) := by decide +kernel
theorem dX1_keep_5 : decode cX1_keep 5 = .ok (.getfield 66, 3) := by decide +kernel
theorem dX1_keep_8 : decode cX1_keep 8 = .ok (.aload_n 0, 1) := by decide +kernel
theorem dX1_keep_9 : decode cX1_keep 9 = .ok (.getfield 113, 3) := by decide +kernel
theorem dX1_keep_12 : decode cX1_keep 12 = .ok (.iastore, 1) := by decide +kernel
theorem dX1_keep_13 : decode cX1_keep 13 = .ok (.aload_n 0, 1) := by decide +kernel
theorem dX1_keep_14 : decode cX1_keep 14 = .ok (.getfield 27, 3) := by decide +kernel
theorem dX1_keep_17 : decode cX1_keep 17 = .ok (.aload_n 0, 1) := by decide +kernel
theorem dX1_keep_18 : decode cX1_keep 18 = .ok (.getfield 66, 3) := by decide +kernel
theorem dX1_keep_21 : decode cX1_keep 21 = .ok (.iload_n 2, 1) := by decide +kernel
theorem dX1_keep_22 : decode cX1_keep 22 = .ok (.iastore, 1) := by decide +kernel
theorem dX1_keep_23 : decode cX1_keep 23 = .ok (.aload_n 0, 1) := by decide +kernel
theorem dX1_keep_24 : decode cX1_keep 24 = .ok (.getfield 30, 3) := by decide +kernel
theorem dX1_keep_27 : decode cX1_keep 27 = .ok (.aload_n 0, 1) := by decide +kernel
theorem dX1_keep_28 : decode cX1_keep 28 = .ok (.getfield 66, 3) := by decide +kernel
theorem dX1_keep_31 : decode cX1_keep 31 = .ok (.aload_n 0, 1) := by decide +kernel
theorem dX1_keep_32 : decode cX1_keep 32 = .ok (.getfield 21, 3) := by decide +kernel
theorem dX1_keep_35 : decode cX1_keep 35 = .ok (.iload_n 1, 1) := by decide +kernel
theorem dX1_keep_36 : decode cX1_keep 36 = .ok (.iaload, 1) := by decide +kernel
theorem dX1_keep_37 : decode cX1_keep 37 = .ok (.iastore, 1) := by decide +kernel
theorem dX1_keep_38 : decode cX1_keep 38 = .ok (.aload_n 0, 1) := by decide +kernel
theorem dX1_keep_39 : decode cX1_keep 39 = .ok (.getfield 33, 3) := by decide +kernel
theorem dX1_keep_42 : decode cX1_keep 42 = .ok (.aload_n 0, 1) := by decide +kernel
theorem dX1_keep_43 : decode cX1_keep 43 = .ok (.getfield 66, 3) := by decide +kernel
theorem dX1_keep_46 : decode cX1_keep 46 = .ok (.iload_n 3, 1) := by decide +kernel
theorem dX1_keep_47 : decode cX1_keep 47 = .ok (.bastore, 1) := by decide +kernel
theorem dX1_keep_48 : decode cX1_keep 48 = .ok (.iconst 0, 1) := by decide +kernel
theorem dX1_keep_49 : decode cX1_keep 49 = .ok (.istore 4, 2) := by decide +kernel
theorem dX1_keep_51 : decode cX1_keep 51 = .ok (.iload 4, 2) := by decide +kernel
theorem dX1_keep_53 : decode cX1_keep 53 = .ok (.iload_n 2, 1) := by decide +kernel
theorem dX1_keep_54 : decode cX1_keep 54 = .ok (.if_icmp .ge 37, 3) := by decide +kernel
theorem dX1_keep_57 : decode cX1_keep 57 = .ok (.aload_n 0, 1) := by decide +kernel
theorem dX1_keep_58 : decode cX1_keep 58 = .ok (.getfield 37, 3) := by decide +kernel
theorem dX1_keep_61 : decode cX1_keep 61 = .ok (.aload_n 0, 1) := by decide +kernel
theorem dX1_keep_62 : decode cX1_keep 62 = .ok (.getfield 113, 3) := by decide +kernel
theorem dX1_keep_65 : decode cX1_keep 65 = .ok (.aload_n 0, 1) := by decide +kernel
theorem dX1_keep_66 : decode cX1_keep 66 = .ok (.getfield 14, 3) := by decide +kernel
theorem dX1_keep_69 : decode cX1_keep 69 = .ok (.iload_n 1, 1) := by decide +kernel
theorem dX1_keep_70 : decode cX1_keep 70 = .ok (.iload 4, 2) := by decide +kernel
theorem dX1_keep_72 : decode cX1_keep 72 = .ok (.iadd, 1) := by decide +kernel
theorem dX1_keep_73 : decode cX1_keep 73 = .ok (.baload, 1) := by decide +kernel
theorem dX1_keep_74 : decode cX1_keep 74 = .ok (.bastore, 1) := by decide +kernel
theorem dX1_keep_75 : decode cX1_keep 75 = .ok (.aload_n 0, 1) := by decide +kernel
theorem dX1_keep_76 : decode cX1_keep 76 = .ok (.dup, 1) := by decide +kernel
theorem dX1_keep_77 : decode cX1_keep 77 = .ok (.getfield 113, 3) := by decide +kernel
theorem dX1_keep_80 : decode cX1_keep 80 = .ok (.iconst 1, 1) := by decide +kernel
theorem dX1_keep_81 : decode cX1_keep 81 = .ok (.iadd, 1) := by decide +kernel
theorem dX1_keep_82 : decode cX1_keep 82 = .ok (.putfield 113, 3) := by decide +kernel
theorem dX1_keep_85 : decode cX1_keep 85 = .ok (.iinc 4 1, 3) := by decide +kernel
theorem dX1_keep_88 : decode cX1_keep 88 = .ok (.goto (-37), 3) := by decide +kernel
theorem dX1_keep_91 : decode cX1_keep 91 = .ok (.aload_n 0, 1) := by decide +kernel
theorem dX1_keep_92 : decode cX1_keep 92 = .ok (.dup, 1) := by decide +kernel
theorem dX1_keep_93 : decode cX1_keep 93 = .ok (.getfield 66, 3) := by decide +kernel
theorem dX1_keep_96 : decode cX1_keep 96 = .ok (.iconst 1, 1) := by decide +kernel
theorem dX1_keep_97 : decode cX1_keep 97 = .ok (.iadd, 1) := by decide +kernel
theorem dX1_keep_98 : decode cX1_keep 98 = .ok (.putfield 66, 3) := by decide +kernel
theorem dX1_keep_101 : decode cX1_keep 101 = .ok (.return_, 1) := by decide +kernel
theorem dX1_next_0 : decode cX1_next 0 = .ok (.aload_n 0, 1) := by decide +kernel
theorem dX1_next_1 : decode cX1_next 1 = .ok (.iconst 0, 1) := by decide +kernel
theorem dX1_next_2 : decode cX1_next 2 = .ok (.putfield 66, 3) := by decide +kernel
theorem dX1_next_5 : decode cX1_next 5 = .ok (.aload_n 0, 1) := by decide +kernel
theorem dX1_next_6 : decode cX1_next 6 = .ok (.iconst 0, 1) := by decide +kernel
theorem dX1_next_7 : decode cX1_next 7 = .ok (.putfield 113, 3) := by decide +kernel
theorem dX1_next_10 : decode cX1_next 10 = .ok (.aload_n 0, 1) := by decide +kernel
theorem dX1_next_11 : decode cX1_next 11 = .ok (.getfield 53, 3) := by decide +kernel
theorem dX1_next_14 : decode cX1_next 14 = .ok (.ifCond .eq 6, 3) := by decide +kernel
theorem dX1_next_17 : decode cX1_next 17 = .ok (.bipush (-2), 2) := by decide +kernel
theorem dX1_next_19 : decode cX1_next 19 = .ok (.ireturn, 1) := by decide +kernel
theorem dX1_next_20 : decode cX1_next 20 = .ok (.aload_n 0, 1) := by decide +kernel
theorem dX1_next_21 : decode cX1_next 21 = .ok (.invokevirtual 116, 3) := by decide +kernel
theorem dX1_next_24 : decode cX1_next 24 = .ok (.aload_n 0, 1) := by decide +kernel
theorem dX1_next_25 : decode cX1_next 25 = .ok (.getfield 107, 3) := by decide +kernel
theorem dX1_next_28 : decode cX1_next 28 = .ok (.ifCond .ne 22, 3) := by decide +kernel
theorem dX1_next_31 : decode cX1_next 31 = .ok (.aload_n 0, 1) := by decide +kernel
theorem dX1_next_32 : decode cX1_next 32 = .ok (.aload_n 0, 1) := by decide +kernel
theorem dX1_next_33 : decode cX1_next 33 = .ok (.getfield 43, 3) := by decide +kernel
theorem dX1_next_36 : decode cX1_next 36 = .ok (.putfield 47, 3) := by decide +kernel
theorem dX1_next_39 : decode cX1_next 39 = .ok (.aload_n 0, 1) := by decide +kernel
theorem dX1_next_40 : decode cX1_next 40 = .ok (.aload_n 0, 1) := by decide +kernel
theorem dX1_next_41 : decode cX1_next 41 = .ok (.getfield 110, 3) := by decide +kernel
theorem dX1_next_44 : decode cX1_next 44 = .ok (.putfield 50, 3) := by decide +kernel
theorem dX1_next_47 : decode cX1_next 47 = .ok (.bipush (-2), 2) := by decide +kernel
theorem dX1_next_49 : decode cX1_next 49 = .ok (.ireturn, 1) := by decide +kernel
theorem dX1_next_50 : decode cX1_next 50 = .ok (.iconst 0, 1) := by decide +kernel
theorem dX1_next_51 : decode cX1_next 51 = .ok (.istore_n 1, 1) := by decide +kernel
theorem dX1_next_52 : decode cX1_next 52 = .ok (.iconst 0, 1) := by decide +kernel
theorem dX1_next_53 : decode cX1_next 53 = .ok (.istore_n 2, 1) := by decide +kernel
theorem dX1_next_54 : decode cX1_next 54 = .ok (.iconst 0, 1) := by decide +kernel
theorem dX1_next_55 : decode cX1_next 55 = .ok (.istore_n 3, 1) := by decide +kernel
theorem dX1_next_56 : decode cX1_next 56 = .ok (.iconst 1, 1) := by decide +kernel
theorem dX1_next_57 : decode cX1_next 57 = .ok (.istore 4, 2) := by decide +kernel
theorem dX1_next_59 : decode cX1_next 59 = .ok (.iconst 0, 1) := by decide +kernel
theorem dX1_next_60 : decode cX1_next 60 = .ok (.istore 5, 2) := by decide +kernel
theorem dX1_next_62 : decode cX1_next 62 = .ok (.iconst 0, 1) := by decide +kernel
theorem dX1_next_63 : decode cX1_next 63 = .ok (.istore 6, 2) := by decide +kernel
theorem dX1_next_65 : decode cX1_next 65 = .ok (.iload 6, 2) := by decide +kernel
theorem dX1_next_67 : decode cX1_next 67 = .ok (.ifCond .ne 290, 3) := by decide +kernel
theorem dX1_next_70 : decode cX1_next 70 = .ok (.iload_n 1, 1) := by decide +kernel
theorem dX1_next_71 : decode cX1_next 71 = .ok (.aload_n 0, 1) := by decide +kernel
theorem dX1_next_72 : decode cX1_next 72 = .ok (.getfield 107, 3) := by decide +kernel
theorem dX1_next_75 : decode cX1_next 75 = .ok (.if_icmp .ge 282, 3) := by decide +kernel
theorem dX1_next_78 : decode cX1_next 78 = .ok (.aload_n 0, 1) := by decide +kernel
theorem dX1_next_79 : decode cX1_next 79 = .ok (.getfield 14, 3) := by decide +kernel
theorem dX1_next_82 : decode cX1_next 82 = .ok (.iload_n 1, 1) := by decide +kernel
theorem dX1_next_83 : decode cX1_next 83 = .ok (.baload, 1) := by decide +kernel
theorem dX1_next_84 : decode cX1_next 84 = .ok (.sipush 255, 3) := by decide +kernel
theorem dX1_next_87 : decode cX1_next 87 = .ok (.iand, 1) := by decide +kernel
theorem dX1_next_88 : decode cX1_next 88 = .ok (.istore 7, 2) := by decide +kernel
theorem dX1_next_90 : decode cX1_next 90 = .ok (.aload_n 0, 1) := by decide +kernel
theorem dX1_next_91 : decode cX1_next 91 = .ok (.getfield 14, 3) := by decide +kernel
theorem dX1_next_94 : decode cX1_next 94 = .ok (.iload_n 1, 1) := by decide +kernel
theorem dX1_next_95 : decode cX1_next 95 = .ok (.iconst 1, 1) := by decide +kernel
theorem dX1_next_96 : decode cX1_next 96 = .ok (.iadd, 1) := by decide +kernel
theorem dX1_next_97 : decode cX1_next 97 = .ok (.aload_n 0, 1) := by decide +kernel
theorem dX1_next_98 : decode cX1_next 98 = .ok (.getfield 107, 3) := by decide +kernel
theorem dX1_next_101 : decode cX1_next 101 = .ok (.invokestatic 79, 3) := by decide +kernel
theorem dX1_next_104 : decode cX1_next 104 = .ok (.istore 8, 2) := by decide +kernel
theorem dX1_next_106 : decode cX1_next 106 = .ok (.iload 7, 2) := by decide +kernel
theorem dX1_next_108 : decode cX1_next 108 = .ok (.bipush 10, 2) := by decide +kernel
theorem dX1_next_110 : decode cX1_next 110 = .ok (.if_icmp .ne 9, 3) := by decide +kernel
theorem dX1_next_113 : decode cX1_next 113 = .ok (.iconst 1, 1) := by decide +kernel
theorem dX1_next_114 : decode cX1_next 114 = .ok (.istore 6, 2) := by decide +kernel
theorem dX1_next_116 : decode cX1_next 116 = .ok (.goto 238, 3) := by decide +kernel
theorem dX1_next_119 : decode cX1_next 119 = .ok (.iload 7, 2) := by decide +kernel
theorem dX1_next_121 : decode cX1_next 121 = .ok (.invokestatic 119, 3) := by decide +kernel
theorem dX1_next_124 : decode cX1_next 124 = .ok (.ifCond .eq 12, 3) := by decide +kernel
theorem dX1_next_127 : decode cX1_next 127 = .ok (.iconst 1, 1) := by decide +kernel
theorem dX1_next_128 : decode cX1_next 128 = .ok (.istore 4, 2) := by decide +kernel
theorem dX1_next_130 : decode cX1_next 130 = .ok (.iinc 1 1, 3) := by decide +kernel
theorem dX1_next_133 : decode cX1_next 133 = .ok (.goto 221, 3) := by decide +kernel
theorem dX1_next_136 : decode cX1_next 136 = .ok (.iload 7, 2) := by decide +kernel
theorem dX1_next_138 : decode cX1_next 138 = .ok (.bipush 47, 2) := by decide +kernel
theorem dX1_next_140 : decode cX1_next 140 = .ok (.if_icmp .ne 43, 3) := by decide +kernel
theorem dX1_next_143 : decode cX1_next 143 = .ok (.iload 8, 2) := by decide +kernel
theorem dX1_next_145 : decode cX1_next 145 = .ok (.bipush 42, 2) := by decide +kernel
theorem dX1_next_147 : decode cX1_next 147 = .ok (.if_icmp .ne 36, 3) := by decide +kernel
theorem dX1_next_150 : decode cX1_next 150 = .ok (.aload_n 0, 1) := by decide +kernel
theorem dX1_next_151 : decode cX1_next 151 = .ok (.iload_n 1, 1) := by decide +kernel
theorem dX1_next_152 : decode cX1_next 152 = .ok (.invokevirtual 122, 3) := by decide +kernel
theorem dX1_next_155 : decode cX1_next 155 = .ok (.istore 9, 2) := by decide +kernel
theorem dX1_next_157 : decode cX1_next 157 = .ok (.iload 9, 2) := by decide +kernel
theorem dX1_next_159 : decode cX1_next 159 = .ok (.ifCond .ge 15, 3) := by decide +kernel
theorem dX1_next_162 : decode cX1_next 162 = .ok (.aload_n 0, 1) := by decide +kernel
theorem dX1_next_163 : decode cX1_next 163 = .ok (.iconst 1, 1) := by decide +kernel
theorem dX1_next_164 : decode cX1_next 164 = .ok (.aload_n 0, 1) := by decide +kernel
theorem dX1_next_165 : decode cX1_next 165 = .ok (.getfield 21, 3) := by decide +kernel
theorem dX1_next_168 : decode cX1_next 168 = .ok (.iload_n 1, 1) := by decide +kernel
theorem dX1_next_169 : decode cX1_next 169 = .ok (.iaload, 1) := by decide +kernel
theorem dX1_next_170 : decode cX1_next 170 = .ok (.invokevirtual 126, 3) := by decide +kernel
theorem dX1_next_173 : decode cX1_next 173 = .ok (.ireturn, 1) := by decide +kernel
theorem dX1_next_174 : decode cX1_next 174 = .ok (.iload 9, 2) := by decide +kernel
theorem dX1_next_176 : decode cX1_next 176 = .ok (.istore_n 1, 1) := by decide +kernel
theorem dX1_next_177 : decode cX1_next 177 = .ok (.iconst 1, 1) := by decide +kernel
theorem dX1_next_178 : decode cX1_next 178 = .ok (.istore 4, 2) := by decide +kernel
theorem dX1_next_180 : decode cX1_next 180 = .ok (.goto 174, 3) := by decide +kernel
theorem dX1_next_183 : decode cX1_next 183 = .ok (.iload 7, 2) := by decide +kernel
theorem dX1_next_185 : decode cX1_next 185 = .ok (.bipush 47, 2) := by decide +kernel
theorem dX1_next_187 : decode cX1_next 187 = .ok (.if_icmp .ne 41, 3) := by decide +kernel
theorem dX1_next_190 : decode cX1_next 190 = .ok (.iload 8, 2) := by decide +kernel
theorem dX1_next_192 : decode cX1_next 192 = .ok (.bipush 47, 2) := by decide +kernel
theorem dX1_next_194 : decode cX1_next 194 = .ok (.if_icmp .ne 34, 3) := by decide +kernel
theorem dX1_next_197 : decode cX1_next 197 = .ok (.iload_n 1, 1) := by decide +kernel
theorem dX1_next_198 : decode cX1_next 198 = .ok (.aload_n 0, 1) := by decide +kernel
theorem dX1_next_199 : decode cX1_next 199 = .ok (.getfield 107, 3) := by decide +kernel
theorem dX1_next_202 : decode cX1_next 202 = .ok (.if_icmp .ge 20, 3) := by decide +kernel
theorem dX1_next_205 : decode cX1_next 205 = .ok (.aload_n 0, 1) := by decide +kernel
theorem dX1_next_206 : decode cX1_next 206 = .ok (.getfield 14, 3) := by decide +kernel
theorem dX1_next_209 : decode cX1_next 209 = .ok (.iload_n 1, 1) := by decide +kernel
theorem dX1_next_210 : decode cX1_next 210 = .ok (.baload, 1) := by decide +kernel
theorem dX1_next_211 : decode cX1_next 211 = .ok (.bipush 10, 2) := by decide +kernel
theorem dX1_next_213 : decode cX1_next 213 = .ok (.if_icmp .eq 9, 3) := by decide +kernel
theorem dX1_next_216 : decode cX1_next 216 = .ok (.iinc 1 1, 3) := by decide +kernel
theorem dX1_next_219 : decode cX1_next 219 = .ok (.goto (-22), 3) := by decide +kernel
theorem dX1_next_222 : decode cX1_next 222 = .ok (.iconst 1, 1) := by decide +kernel
theorem dX1_next_223 : decode cX1_next 223 = .ok (.istore 4, 2) := by decide +kernel
theorem dX1_next_225 : decode cX1_next 225 = .ok (.goto 129, 3) := by decide +kernel
theorem dX1_next_228 : decode cX1_next 228 = .ok (.aload_n 0, 1) := by decide +kernel
theorem dX1_next_229 : decode cX1_next 229 = .ok (.iload_n 1, 1) := by decide +kernel
theorem dX1_next_230 : decode cX1_next 230 = .ok (.aload_n 0, 1) := by decide +kernel
theorem dX1_next_231 : decode cX1_next 231 = .ok (.getfield 107, 3) := by decide +kernel
theorem dX1_next_234 : decode cX1_next 234 = .ok (.invokevirtual 129, 3) := by decide +kernel
theorem dX1_next_237 : decode cX1_next 237 = .ok (.istore 9, 2) := by decide +kernel
theorem dX1_next_239 : decode cX1_next 239 = .ok (.iload 9, 2) := by decide +kernel
theorem dX1_next_241 : decode cX1_next 241 = .ok (.iconst 1, 1) := by decide +kernel
theorem dX1_next_242 : decode cX1_next 242 = .ok (.if_icmp .ne 50, 3) := by decide +kernel
theorem dX1_next_245 : decode cX1_next 245 = .ok (.iload 7, 2) := by decide +kernel
theorem dX1_next_247 : decode cX1_next 247 = .ok (.bipush 34, 2) := by decide +kernel
theorem dX1_next_249 : decode cX1_next 249 = .ok (.if_icmp .eq 10, 3) := by decide +kernel
theorem dX1_next_252 : decode cX1_next 252 = .ok (.iload 7, 2) := by decide +kernel
theorem dX1_next_254 : decode cX1_next 254 = .ok (.bipush 39, 2) := by decide +kernel
theorem dX1_next_256 : decode cX1_next 256 = .ok (.if_icmp .ne 36, 3) := by decide +kernel
theorem dX1_next_259 : decode cX1_next 259 = .ok (.aload_n 0, 1) := by decide +kernel
theorem dX1_next_260 : decode cX1_next 260 = .ok (.dup, 1) := by decide +kernel
theorem dX1_next_261 : decode cX1_next 261 = .ok (.getfield 63, 3) := by decide +kernel
theorem dX1_next_264 : decode cX1_next 264 = .ok (.iconst 1, 1) := by decide +kernel
theorem dX1_next_265 : decode cX1_next 265 = .ok (.iadd, 1) := by decide +kernel
theorem dX1_next_266 : decode cX1_next 266 = .ok (.putfield 63, 3) := by decide +kernel
theorem dX1_next_269 : decode cX1_next 269 = .ok (.aload_n 0, 1) := by decide +kernel
theorem dX1_next_270 : decode cX1_next 270 = .ok (.getfield 63, 3) := by decide +kernel
theorem dX1_next_273 : decode cX1_next 273 = .ok (.sipush 1000, 3) := by decide +kernel
theorem dX1_next_276 : decode cX1_next 276 = .ok (.if_icmp .le 16, 3) := by decide +kernel
theorem dX1_next_279 : decode cX1_next 279 = .ok (.aload_n 0, 1) := by decide +kernel
theorem dX1_next_280 : decode cX1_next 280 = .ok (.bipush 21, 2) := by decide +kernel
theorem dX1_next_282 : decode cX1_next 282 = .ok (.aload_n 0, 1) := by decide +kernel
theorem dX1_next_283 : decode cX1_next 283 = .ok (.getfield 21, 3) := by decide +kernel
theorem dX1_next_286 : decode cX1_next 286 = .ok (.iload_n 1, 1) := by decide +kernel
theorem dX1_next_287 : decode cX1_next 287 = .ok (.iaload, 1) := by decide +kernel
theorem dX1_next_288 : decode cX1_next 288 = .ok (.invokevirtual 126, 3) := by decide +kernel
theorem dX1_next_291 : decode cX1_next 291 = .ok (.ireturn, 1) := by decide +kernel
theorem dX1_next_292 : decode cX1_next 292 = .ok (.iload_n 2, 1) := by decide +kernel
theorem dX1_next_293 : decode cX1_next 293 = .ok (.ifCond .ne 12, 3) := by decide +kernel
theorem dX1_next_296 : decode cX1_next 296 = .ok (.aload_n 0, 1) := by decide +kernel
theorem dX1_next_297 : decode cX1_next 297 = .ok (.getfield 21, 3) := by decide +kernel
theorem dX1_next_300 : decode cX1_next 300 = .ok (.iload_n 1, 1) := by decide +kernel
theorem dX1_next_301 : decode cX1_next 301 = .ok (.iaload, 1) := by decide +kernel
theorem dX1_next_302 : decode cX1_next 302 = .ok (.goto 5, 3) := by decide +kernel
theorem dX1_next_305 : decode cX1_next 305 = .ok (.iload 5, 2) := by decide +kernel
theorem dX1_next_307 : decode cX1_next 307 = .ok (.istore 5, 2) := by decide +kernel
theorem dX1_next_309 : decode cX1_next 309 = .ok (.iload_n 2, 1) := by decide +kernel
theorem dX1_next_310 : decode cX1_next 310 = .ok (.sipush 8000, 3) := by decide +kernel
theorem dX1_next_313 : decode cX1_next 313 = .ok (.if_icmp .ne 12, 3) := by decide +kernel
theorem dX1_next_316 : decode cX1_next 316 = .ok (.aload_n 0, 1) := by decide +kernel
theorem dX1_next_317 : decode cX1_next 317 = .ok (.getfield 21, 3) := by decide +kernel
theorem dX1_next_320 : decode cX1_next 320 = .ok (.iload_n 1, 1) := by decide +kernel
theorem dX1_next_321 : decode cX1_next 321 = .ok (.iaload, 1) := by decide +kernel
theorem dX1_next_322 : decode cX1_next 322 = .ok (.goto 4, 3) := by decide +kernel
theorem dX1_next_325 : decode cX1_next 325 = .ok (.iload_n 3, 1) := by decide +kernel
theorem dX1_next_326 : decode cX1_next 326 = .ok (.istore_n 3, 1) := by decide +kernel
theorem dX1_next_327 : decode cX1_next 327 = .ok (.iload_n 2, 1) := by decide +kernel
theorem dX1_next_328 : decode cX1_next 328 = .ok (.sipush 8000, 3) := by decide +kernel
theorem dX1_next_331 : decode cX1_next 331 = .ok (.if_icmp .ge 12, 3) := by decide +kernel
theorem dX1_next_334 : decode cX1_next 334 = .ok (.aload_n 0, 1) := by decide +kernel
theorem dX1_next_335 : decode cX1_next 335 = .ok (.iload_n 1, 1) := by decide +kernel
theorem dX1_next_336 : decode cX1_next 336 = .ok (.iload 9, 2) := by decide +kernel
theorem dX1_next_338 : decode cX1_next 338 = .ok (.iload 4, 2) := by decide +kernel
theorem dX1_next_340 : decode cX1_next 340 = .ok (.invokevirtual 132, 3) := by decide +kernel
theorem dX1_next_343 : decode cX1_next 343 = .ok (.iinc 2 1, 3) := by decide +kernel
theorem dX1_next_346 : decode cX1_next 346 = .ok (.iconst 0, 1) := by decide +kernel
theorem dX1_next_347 : decode cX1_next 347 = .ok (.istore 4, 2) := by decide +kernel
theorem dX1_next_349 : decode cX1_next 349 = .ok (.iload_n 1, 1) := by decide +kernel
theorem dX1_next_350 : decode cX1_next 350 = .ok (.iload 9, 2) := by decide +kernel
theorem dX1_next_352 : decode cX1_next 352 = .ok (.iadd, 1) := by decide +kernel
theorem dX1_next_353 : decode cX1_next 353 = .ok (.istore_n 1, 1) := by decide +kernel
theorem dX1_next_354 : decode cX1_next 354 = .ok (.goto (-289), 3) := by decide +kernel
theorem dX1_next_357 : decode cX1_next 357 = .ok (.aload_n 0, 1) := by decide +kernel
theorem dX1_next_358 : decode cX1_next 358 = .ok (.iload 6, 2) := by decide +kernel
theorem dX1_next_360 : decode cX1_next 360 = .ok (.ifCond .eq 14, 3) := by decide +kernel
theorem dX1_next_363 : decode cX1_next 363 = .ok (.aload_n 0, 1) := by decide +kernel
theorem dX1_next_364 : decode cX1_next 364 = .ok (.getfield 17, 3) := by decide +kernel
theorem dX1_next_367 : decode cX1_next 367 = .ok (.iload_n 1, 1) := by decide +kernel
theorem dX1_next_368 : decode cX1_next 368 = .ok (.iaload, 1) := by decide +kernel
theorem dX1_next_369 : decode cX1_next 369 = .ok (.iconst 1, 1) := by decide +kernel
theorem dX1_next_370 : decode cX1_next 370 = .ok (.iadd, 1) := by decide +kernel
theorem dX1_next_371 : decode cX1_next 371 = .ok (.goto 7, 3) := by decide +kernel
theorem dX1_next_374 : decode cX1_next 374 = .ok (.aload_n 0, 1) := by decide +kernel
theorem dX1_next_375 : decode cX1_next 375 = .ok (.getfield 43, 3) := by decide +kernel
theorem dX1_next_378 : decode cX1_next 378 = .ok (.putfield 47, 3) := by decide +kernel
theorem dX1_next_381 : decode cX1_next 381 = .ok (.aload_n 0, 1) := by decide +kernel
theorem dX1_next_382 : decode cX1_next 382 = .ok (.iload 6, 2) := by decide +kernel
theorem dX1_next_384 : decode cX1_next 384 = .ok (.ifCond .eq 14, 3) := by decide +kernel
theorem dX1_next_387 : decode cX1_next 387 = .ok (.aload_n 0, 1) := by decide +kernel
theorem dX1_next_388 : decode cX1_next 388 = .ok (.getfield 21, 3) := by decide +kernel
theorem dX1_next_391 : decode cX1_next 391 = .ok (.iload_n 1, 1) := by decide +kernel
theorem dX1_next_392 : decode cX1_next 392 = .ok (.iaload, 1) := by decide +kernel
theorem dX1_next_393 : decode cX1_next 393 = .ok (.iconst 1, 1) := by decide +kernel
theorem dX1_next_394 : decode cX1_next 394 = .ok (.iadd, 1) := by decide +kernel
theorem dX1_next_395 : decode cX1_next 395 = .ok (.goto 7, 3) := by decide +kernel
theorem dX1_next_398 : decode cX1_next 398 = .ok (.aload_n 0, 1) := by decide +kernel
theorem dX1_next_399 : decode cX1_next 399 = .ok (.getfield 110, 3) := by decide +kernel
theorem dX1_next_402 : decode cX1_next 402 = .ok (.putfield 50, 3) := by decide +kernel
theorem dX1_next_405 : decode cX1_next 405 = .ok (.iload_n 2, 1) := by decide +kernel
theorem dX1_next_406 : decode cX1_next 406 = .ok (.ifCond .le 22, 3) := by decide +kernel
theorem dX1_next_409 : decode cX1_next 409 = .ok (.aload_n 0, 1) := by decide +kernel
theorem dX1_next_410 : decode cX1_next 410 = .ok (.getfield 60, 3) := by decide +kernel
theorem dX1_next_413 : decode cX1_next 413 = .ok (.sipush 20000, 3) := by decide +kernel
theorem dX1_next_416 : decode cX1_next 416 = .ok (.if_icmp .ne 12, 3) := by decide +kernel
theorem dX1_next_419 : decode cX1_next 419 = .ok (.aload_n 0, 1) := by decide +kernel
theorem dX1_next_420 : decode cX1_next 420 = .ok (.bipush 21, 2) := by decide +kernel
theorem dX1_next_422 : decode cX1_next 422 = .ok (.iload 5, 2) := by decide +kernel
theorem dX1_next_424 : decode cX1_next 424 = .ok (.invokevirtual 126, 3) := by decide +kernel
theorem dX1_next_427 : decode cX1_next 427 = .ok (.ireturn, 1) := by decide +kernel
theorem dX1_next_428 : decode cX1_next 428 = .ok (.aload_n 0, 1) := by decide +kernel
theorem dX1_next_429 : decode cX1_next 429 = .ok (.iload_n 2, 1) := by decide +kernel
theorem dX1_next_430 : decode cX1_next 430 = .ok (.ifCond .le 12, 3) := by decide +kernel
theorem dX1_next_433 : decode cX1_next 433 = .ok (.aload_n 0, 1) := by decide +kernel
theorem dX1_next_434 : decode cX1_next 434 = .ok (.getfield 60, 3) := by decide +kernel
theorem dX1_next_437 : decode cX1_next 437 = .ok (.iconst 1, 1) := by decide +kernel
theorem dX1_next_438 : decode cX1_next 438 = .ok (.iadd, 1) := by decide +kernel
theorem dX1_next_439 : decode cX1_next 439 = .ok (.goto 7, 3) := by decide +kernel
theorem dX1_next_442 : decode cX1_next 442 = .ok (.aload_n 0, 1) := by decide +kernel
theorem dX1_next_443 : decode cX1_next 443 = .ok (.getfield 60, 3) := by decide +kernel
theorem dX1_next_446 : decode cX1_next 446 = .ok (.putfield 60, 3) := by decide +kernel
theorem dX1_next_449 : decode cX1_next 449 = .ok (.iload_n 2, 1) := by decide +kernel
theorem dX1_next_450 : decode cX1_next 450 = .ok (.sipush 8000, 3) := by decide +kernel
theorem dX1_next_453 : decode cX1_next 453 = .ok (.if_icmp .le 11, 3) := by decide +kernel
theorem dX1_next_456 : decode cX1_next 456 = .ok (.aload_n 0, 1) := by decide +kernel
theorem dX1_next_457 : decode cX1_next 457 = .ok (.bipush 21, 2) := by decide +kernel
theorem dX1_next_459 : decode cX1_next 459 = .ok (.iload_n 3, 1) := by decide +kernel
theorem dX1_next_460 : decode cX1_next 460 = .ok (.invokevirtual 126, 3) := by decide +kernel
theorem dX1_next_463 : decode cX1_next 463 = .ok (.ireturn, 1) := by decide +kernel
theorem dX1_next_464 : decode cX1_next 464 = .ok (.aload_n 0, 1) := by decide +kernel
theorem dX1_next_465 : decode cX1_next 465 = .ok (.getfield 66, 3) := by decide +kernel
theorem dX1_next_468 : decode cX1_next 468 = .ok (.ireturn, 1) := by decide +kernel
theorem dX1_told_0 : decode cX1_told 0 = .ok (.iload_n 1, 1) := by decide +kernel
theorem dX1_told_1 : decode cX1_told 1 = .ok (.tableswitch 91 0 3 #[31, 65, 70, 75], 31) := by decide +kernel
theorem dX1_told_32 : decode cX1_told 32 = .ok (.aload_n 0, 1) := by decide +kernel
theorem dX1_told_33 : decode cX1_told 33 = .ok (.getfield 66, 3) := by decide +kernel
theorem dX1_told_36 : decode cX1_told 36 = .ok (.ifCond .le 28, 3) := by decide +kernel
theorem dX1_told_39 : decode cX1_told 39 = .ok (.aload_n 0, 1) := by decide +kernel
theorem dX1_told_40 : decode cX1_told 40 = .ok (.getfield 27, 3) := by decide +kernel
theorem dX1_told_43 : decode cX1_told 43 = .ok (.iconst 0, 1) := by decide +kernel
theorem dX1_told_44 : decode cX1_told 44 = .ok (.iaload, 1) := by decide +kernel
theorem dX1_told_45 : decode cX1_told 45 = .ok (.iconst 1, 1) := by decide +kernel
theorem dX1_told_46 : decode cX1_told 46 = .ok (.if_icmp .ne 18, 3) := by decide +kernel
theorem dX1_told_49 : decode cX1_told 49 = .ok (.aload_n 0, 1) := by decide +kernel
theorem dX1_told_50 : decode cX1_told 50 = .ok (.getfield 37, 3) := by decide +kernel
theorem dX1_told_53 : decode cX1_told 53 = .ok (.iconst 0, 1) := by decide +kernel
theorem dX1_told_54 : decode cX1_told 54 = .ok (.baload, 1) := by decide +kernel
theorem dX1_told_55 : decode cX1_told 55 = .ok (.bipush 35, 2) := by decide +kernel
theorem dX1_told_57 : decode cX1_told 57 = .ok (.if_icmp .ne 7, 3) := by decide +kernel
theorem dX1_told_60 : decode cX1_told 60 = .ok (.iconst 1, 1) := by decide +kernel
theorem dX1_told_61 : decode cX1_told 61 = .ok (.goto 4, 3) := by decide +kernel
theorem dX1_told_64 : decode cX1_told 64 = .ok (.iconst 0, 1) := by decide +kernel
theorem dX1_told_65 : decode cX1_told 65 = .ok (.ireturn, 1) := by decide +kernel
theorem dX1_told_66 : decode cX1_told 66 = .ok (.aload_n 0, 1) := by decide +kernel
theorem dX1_told_67 : decode cX1_told 67 = .ok (.getfield 60, 3) := by decide +kernel
theorem dX1_told_70 : decode cX1_told 70 = .ok (.ireturn, 1) := by decide +kernel
theorem dX1_told_71 : decode cX1_told 71 = .ok (.aload_n 0, 1) := by decide +kernel
theorem dX1_told_72 : decode cX1_told 72 = .ok (.getfield 57, 3) := by decide +kernel
theorem dX1_told_75 : decode cX1_told 75 = .ok (.ireturn, 1) := by decide +kernel
theorem dX1_told_76 : decode cX1_told 76 = .ok (.aload_n 0, 1) := by decide +kernel
theorem dX1_told_77 : decode cX1_told 77 = .ok (.getfield 53, 3) := by decide +kernel
theorem dX1_told_80 : decode cX1_told 80 = .ok (.ifCond .eq 7, 3) := by decide +kernel
theorem dX1_told_83 : decode cX1_told 83 = .ok (.iconst 0, 1) := by decide +kernel
theorem dX1_told_84 : decode cX1_told 84 = .ok (.goto 7, 3) := by decide +kernel
theorem dX1_told_87 : decode cX1_told 87 = .ok (.aload_n 0, 1) := by decide +kernel
theorem dX1_told_88 : decode cX1_told 88 = .ok (.getfield 50, 3) := by decide +kernel
theorem dX1_told_91 : decode cX1_told 91 = .ok (.ireturn, 1) := by decide +kernel
theorem dX1_told_92 : decode cX1_told 92 = .ok (.iconst (-1), 1) := by decide +kernel
theorem dX1_told_93 : decode cX1_told 93 = .ok (.ireturn, 1) := by decide +kernel
theorem dX1_byteOf_0 : decode cX1_byteOf 0 = .ok (.aload_n 0, 1) := by decide +kernel
theorem dX1_byteOf_1 : decode cX1_byteOf 1 = .ok (.getfield 37, 3) := by decide +kernel
theorem dX1_byteOf_4 : decode cX1_byteOf 4 = .ok (.aload_n 0, 1) := by decide +kernel
theorem dX1_byteOf_5 : decode cX1_byteOf 5 = .ok (.getfield 24, 3) := by decide +kernel
theorem dX1_byteOf_8 : decode cX1_byteOf 8 = .ok (.iload_n 1, 1) := by decide +kernel
theorem dX1_byteOf_9 : decode cX1_byteOf 9 = .ok (.iaload, 1) := by decide +kernel
theorem dX1_byteOf_10 : decode cX1_byteOf 10 = .ok (.iload_n 2, 1) := by decide +kernel
theorem dX1_byteOf_11 : decode cX1_byteOf 11 = .ok (.iadd, 1) := by decide +kernel
theorem dX1_byteOf_12 : decode cX1_byteOf 12 = .ok (.baload, 1) := by decide +kernel
theorem dX1_byteOf_13 : decode cX1_byteOf 13 = .ok (.sipush 255, 3) := by decide +kernel
theorem dX1_byteOf_16 : decode cX1_byteOf 16 = .ok (.iand, 1) := by decide +kernel
theorem dX1_byteOf_17 : decode cX1_byteOf 17 = .ok (.ireturn, 1) := by decide +kernel
theorem dX1_kindOf_0 : decode cX1_kindOf 0 = .ok (.aload_n 0, 1) := by decide +kernel
theorem dX1_kindOf_1 : decode cX1_kindOf 1 = .ok (.iload_n 1, 1) := by decide +kernel
theorem dX1_kindOf_2 : decode cX1_kindOf 2 = .ok (.iconst 0, 1) := by decide +kernel
theorem dX1_kindOf_3 : decode cX1_kindOf 3 = .ok (.invokevirtual 136, 3) := by decide +kernel
theorem dX1_kindOf_6 : decode cX1_kindOf 6 = .ok (.istore_n 2, 1) := by decide +kernel
theorem dX1_kindOf_7 : decode cX1_kindOf 7 = .ok (.aload_n 0, 1) := by decide +kernel
theorem dX1_kindOf_8 : decode cX1_kindOf 8 = .ok (.getfield 27, 3) := by decide +kernel
theorem dX1_kindOf_11 : decode cX1_kindOf 11 = .ok (.iload_n 1, 1) := by decide +kernel
theorem dX1_kindOf_12 : decode cX1_kindOf 12 = .ok (.iaload, 1) := by decide +kernel
theorem dX1_kindOf_13 : decode cX1_kindOf 13 = .ok (.iconst 1, 1) := by decide +kernel
theorem dX1_kindOf_14 : decode cX1_kindOf 14 = .ok (.if_icmp .le 12, 3) := by decide +kernel
theorem dX1_kindOf_17 : decode cX1_kindOf 17 = .ok (.aload_n 0, 1) := by decide +kernel
theorem dX1_kindOf_18 : decode cX1_kindOf 18 = .ok (.iload_n 1, 1) := by decide +kernel
theorem dX1_kindOf_19 : decode cX1_kindOf 19 = .ok (.iconst 1, 1) := by decide +kernel
theorem dX1_kindOf_20 : decode cX1_kindOf 20 = .ok (.invokevirtual 136, 3) := by decide +kernel
theorem dX1_kindOf_23 : decode cX1_kindOf 23 = .ok (.goto 4, 3) := by decide +kernel
theorem dX1_kindOf_26 : decode cX1_kindOf 26 = .ok (.iconst (-1), 1) := by decide +kernel
theorem dX1_kindOf_27 : decode cX1_kindOf 27 = .ok (.istore_n 3, 1) := by decide +kernel
theorem dX1_kindOf_28 : decode cX1_kindOf 28 = .ok (.iload_n 2, 1) := by decide +kernel
theorem dX1_kindOf_29 : decode cX1_kindOf 29 = .ok (.bipush 76, 2) := by decide +kernel
theorem dX1_kindOf_31 : decode cX1_kindOf 31 = .ok (.if_icmp .ne 19, 3) := by decide +kernel
theorem dX1_kindOf_34 : decode cX1_kindOf 34 = .ok (.iload_n 3, 1) := by decide +kernel
theorem dX1_kindOf_35 : decode cX1_kindOf 35 = .ok (.bipush 34, 2) := by decide +kernel
theorem dX1_kindOf_37 : decode cX1_kindOf 37 = .ok (.if_icmp .eq 9, 3) := by decide +kernel
theorem dX1_kindOf_40 : decode cX1_kindOf 40 = .ok (.iload_n 3, 1) := by decide +kernel
theorem dX1_kindOf_41 : decode cX1_kindOf 41 = .ok (.bipush 39, 2) := by decide +kernel
theorem dX1_kindOf_43 : decode cX1_kindOf 43 = .ok (.if_icmp .ne 7, 3) := by decide +kernel
theorem dX1_kindOf_46 : decode cX1_kindOf 46 = .ok (.iload_n 3, 1) := by decide +kernel
theorem dX1_kindOf_47 : decode cX1_kindOf 47 = .ok (.goto 12, 3) := by decide +kernel
theorem dX1_kindOf_50 : decode cX1_kindOf 50 = .ok (.iload_n 3, 1) := by decide +kernel
theorem dX1_kindOf_51 : decode cX1_kindOf 51 = .ok (.ifCond .lt 7, 3) := by decide +kernel
theorem dX1_kindOf_54 : decode cX1_kindOf 54 = .ok (.iload_n 2, 1) := by decide +kernel
theorem dX1_kindOf_55 : decode cX1_kindOf 55 = .ok (.goto 4, 3) := by decide +kernel
theorem dX1_kindOf_58 : decode cX1_kindOf 58 = .ok (.iconst (-1), 1) := by decide +kernel
theorem dX1_kindOf_59 : decode cX1_kindOf 59 = .ok (.istore 4, 2) := by decide +kernel
theorem dX1_kindOf_61 : decode cX1_kindOf 61 = .ok (.iload 4, 2) := by decide +kernel
theorem dX1_kindOf_63 : decode cX1_kindOf 63 = .ok (.bipush 34, 2) := by decide +kernel
theorem dX1_kindOf_65 : decode cX1_kindOf 65 = .ok (.if_icmp .eq 10, 3) := by decide +kernel
theorem dX1_kindOf_68 : decode cX1_kindOf 68 = .ok (.iload 4, 2) := by decide +kernel
theorem dX1_kindOf_70 : decode cX1_kindOf 70 = .ok (.bipush 39, 2) := by decide +kernel
theorem dX1_kindOf_72 : decode cX1_kindOf 72 = .ok (.if_icmp .ne 16, 3) := by decide +kernel
theorem dX1_kindOf_75 : decode cX1_kindOf 75 = .ok (.iload 4, 2) := by decide +kernel
theorem dX1_kindOf_77 : decode cX1_kindOf 77 = .ok (.bipush 34, 2) := by decide +kernel
theorem dX1_kindOf_79 : decode cX1_kindOf 79 = .ok (.if_icmp .ne 7, 3) := by decide +kernel
theorem dX1_kindOf_82 : decode cX1_kindOf 82 = .ok (.iconst 3, 1) := by decide +kernel
theorem dX1_kindOf_83 : decode cX1_kindOf 83 = .ok (.goto 4, 3) := by decide +kernel
theorem dX1_kindOf_86 : decode cX1_kindOf 86 = .ok (.iconst 4, 1) := by decide +kernel
theorem dX1_kindOf_87 : decode cX1_kindOf 87 = .ok (.ireturn, 1) := by decide +kernel
theorem dX1_kindOf_88 : decode cX1_kindOf 88 = .ok (.iload_n 2, 1) := by decide +kernel
theorem dX1_kindOf_89 : decode cX1_kindOf 89 = .ok (.invokestatic 95, 3) := by decide +kernel
theorem dX1_kindOf_92 : decode cX1_kindOf 92 = .ok (.ifCond .eq 5, 3) := by decide +kernel
theorem dX1_kindOf_95 : decode cX1_kindOf 95 = .ok (.iconst 1, 1) := by decide +kernel
theorem dX1_kindOf_96 : decode cX1_kindOf 96 = .ok (.ireturn, 1) := by decide +kernel
theorem dX1_kindOf_97 : decode cX1_kindOf 97 = .ok (.iload_n 2, 1) := by decide +kernel
theorem dX1_kindOf_98 : decode cX1_kindOf 98 = .ok (.invokestatic 99, 3) := by decide +kernel
theorem dX1_kindOf_101 : decode cX1_kindOf 101 = .ok (.ifCond .ne 16, 3) := by decide +kernel
theorem dX1_kindOf_104 : decode cX1_kindOf 104 = .ok (.iload_n 2, 1) := by decide +kernel
theorem dX1_kindOf_105 : decode cX1_kindOf 105 = .ok (.bipush 46, 2) := by decide +kernel
theorem dX1_kindOf_107 : decode cX1_kindOf 107 = .ok (.if_icmp .ne 14, 3) := by decide +kernel
theorem dX1_kindOf_110 : decode cX1_kindOf 110 = .ok (.iload_n 3, 1) := by decide +kernel
theorem dX1_kindOf_111 : decode cX1_kindOf 111 = .ok (.invokestatic 99, 3) := by decide +kernel
theorem dX1_kindOf_114 : decode cX1_kindOf 114 = .ok (.ifCond .eq 7, 3) := by decide +kernel
theorem dX1_kindOf_117 : decode cX1_kindOf 117 = .ok (.iconst 2, 1) := by decide +kernel
theorem dX1_kindOf_118 : decode cX1_kindOf 118 = .ok (.goto 22, 3) := by decide +kernel
theorem dX1_kindOf_121 : decode cX1_kindOf 121 = .ok (.iload_n 3, 1) := by decide +kernel
theorem dX1_kindOf_122 : decode cX1_kindOf 122 = .ok (.ifCond .ge 12, 3) := by decide +kernel
theorem dX1_kindOf_125 : decode cX1_kindOf 125 = .ok (.iload_n 2, 1) := by decide +kernel
theorem dX1_kindOf_126 : decode cX1_kindOf 126 = .ok (.ldc 139, 2) := by decide +kernel
theorem dX1_kindOf_128 : decode cX1_kindOf 128 = .ok (.invokestatic 85, 3) := by decide +kernel
theorem dX1_kindOf_131 : decode cX1_kindOf 131 = .ok (.ifCond .eq 7, 3) := by decide +kernel
theorem dX1_kindOf_134 : decode cX1_kindOf 134 = .ok (.iconst 5, 1) := by decide +kernel
theorem dX1_kindOf_135 : decode cX1_kindOf 135 = .ok (.goto 5, 3) := by decide +kernel
theorem dX1_kindOf_138 : decode cX1_kindOf 138 = .ok (.bipush 6, 2) := by decide +kernel
theorem dX1_kindOf_140 : decode cX1_kindOf 140 = .ok (.ireturn, 1) := by decide +kernel
theorem dX1_token_0 : decode cX1_token 0 = .ok (.iload_n 1, 1) := by decide +kernel
theorem dX1_token_1 : decode cX1_token 1 = .ok (.ifCond .lt 20, 3) := by decide +kernel
theorem dX1_token_4 : decode cX1_token 4 = .ok (.iload_n 1, 1) := by decide +kernel
theorem dX1_token_5 : decode cX1_token 5 = .ok (.aload_n 0, 1) := by decide +kernel
theorem dX1_token_6 : decode cX1_token 6 = .ok (.getfield 66, 3) := by decide +kernel
theorem dX1_token_9 : decode cX1_token 9 = .ok (.if_icmp .ge 12, 3) := by decide +kernel
theorem dX1_token_12 : decode cX1_token 12 = .ok (.iload_n 2, 1) := by decide +kernel
theorem dX1_token_13 : decode cX1_token 13 = .ok (.ifCond .lt 8, 3) := by decide +kernel
theorem dX1_token_16 : decode cX1_token 16 = .ok (.iload_n 2, 1) := by decide +kernel
theorem dX1_token_17 : decode cX1_token 17 = .ok (.iconst 4, 1) := by decide +kernel
theorem dX1_token_18 : decode cX1_token 18 = .ok (.if_icmp .le 5, 3) := by decide +kernel
theorem dX1_token_21 : decode cX1_token 21 = .ok (.iconst (-1), 1) := by decide +kernel
theorem dX1_token_22 : decode cX1_token 22 = .ok (.ireturn, 1) := by decide +kernel
theorem dX1_token_23 : decode cX1_token 23 = .ok (.iload_n 2, 1) := by decide +kernel
theorem dX1_token_24 : decode cX1_token 24 = .ok (.tableswitch 67 0 3 #[32, 38, 45, 52], 32) := by decide +kernel
theorem dX1_token_56 : decode cX1_token 56 = .ok (.aload_n 0, 1) := by decide +kernel
theorem dX1_token_57 : decode cX1_token 57 = .ok (.iload_n 1, 1) := by decide +kernel
theorem dX1_token_58 : decode cX1_token 58 = .ok (.invokevirtual 141, 3) := by decide +kernel
theorem dX1_token_61 : decode cX1_token 61 = .ok (.ireturn, 1) := by decide +kernel
theorem dX1_token_62 : decode cX1_token 62 = .ok (.aload_n 0, 1) := by decide +kernel
theorem dX1_token_63 : decode cX1_token 63 = .ok (.getfield 30, 3) := by decide +kernel
theorem dX1_token_66 : decode cX1_token 66 = .ok (.iload_n 1, 1) := by decide +kernel
theorem dX1_token_67 : decode cX1_token 67 = .ok (.iaload, 1) := by decide +kernel
theorem dX1_token_68 : decode cX1_token 68 = .ok (.ireturn, 1) := by decide +kernel
theorem dX1_token_69 : decode cX1_token 69 = .ok (.aload_n 0, 1) := by decide +kernel
theorem dX1_token_70 : decode cX1_token 70 = .ok (.getfield 27, 3) := by decide +kernel
theorem dX1_token_73 : decode cX1_token 73 = .ok (.iload_n 1, 1) := by decide +kernel
theorem dX1_token_74 : decode cX1_token 74 = .ok (.iaload, 1) := by decide +kernel
theorem dX1_token_75 : decode cX1_token 75 = .ok (.ireturn, 1) := by decide +kernel
theorem dX1_token_76 : decode cX1_token 76 = .ok (.aload_n 0, 1) := by decide +kernel
theorem dX1_token_77 : decode cX1_token 77 = .ok (.getfield 33, 3) := by decide +kernel
theorem dX1_token_80 : decode cX1_token 80 = .ok (.iload_n 1, 1) := by decide +kernel
theorem dX1_token_81 : decode cX1_token 81 = .ok (.baload, 1) := by decide +kernel
theorem dX1_token_82 : decode cX1_token 82 = .ok (.ifCond .eq 7, 3) := by decide +kernel
theorem dX1_token_85 : decode cX1_token 85 = .ok (.iconst 1, 1) := by decide +kernel
theorem dX1_token_86 : decode cX1_token 86 = .ok (.goto 4, 3) := by decide +kernel
theorem dX1_token_89 : decode cX1_token 89 = .ok (.iconst 0, 1) := by decide +kernel
theorem dX1_token_90 : decode cX1_token 90 = .ok (.ireturn, 1) := by decide +kernel
theorem dX1_token_91 : decode cX1_token 91 = .ok (.iload_n 1, 1) := by decide +kernel
theorem dX1_token_92 : decode cX1_token 92 = .ok (.ifCond .ne 7, 3) := by decide +kernel
theorem dX1_token_95 : decode cX1_token 95 = .ok (.iconst 1, 1) := by decide +kernel
theorem dX1_token_96 : decode cX1_token 96 = .ok (.goto 4, 3) := by decide +kernel
theorem dX1_token_99 : decode cX1_token 99 = .ok (.iconst 0, 1) := by decide +kernel
theorem dX1_token_100 : decode cX1_token 100 = .ok (.ireturn, 1) := by decide +kernel
theorem dX1_spelling_0 : decode cX1_spelling 0 = .ok (.lconst 0, 1) := by decide +kernel
theorem dX1_spelling_1 : decode cX1_spelling 1 = .ok (.lstore_n 3, 1) := by decide +kernel
theorem dX1_spelling_2 : decode cX1_spelling 2 = .ok (.bipush 7, 2) := by decide +kernel
theorem dX1_spelling_4 : decode cX1_spelling 4 = .ok (.istore 5, 2) := by decide +kernel
theorem dX1_spelling_6 : decode cX1_spelling 6 = .ok (.iload 5, 2) := by decide +kernel
theorem dX1_spelling_8 : decode cX1_spelling 8 = .ok (.ifCond .lt 71, 3) := by decide +kernel
theorem dX1_spelling_11 : decode cX1_spelling 11 = .ok (.iload_n 1, 1) := by decide +kernel
theorem dX1_spelling_12 : decode cX1_spelling 12 = .ok (.ifCond .lt 67, 3) := by decide +kernel
theorem dX1_spelling_15 : decode cX1_spelling 15 = .ok (.iload_n 1, 1) := by decide +kernel
theorem dX1_spelling_16 : decode cX1_spelling 16 = .ok (.aload_n 0, 1) := by decide +kernel
theorem dX1_spelling_17 : decode cX1_spelling 17 = .ok (.getfield 66, 3) := by decide +kernel
theorem dX1_spelling_20 : decode cX1_spelling 20 = .ok (.if_icmp .ge 59, 3) := by decide +kernel
theorem dX1_spelling_23 : decode cX1_spelling 23 = .ok (.iload_n 2, 1) := by decide +kernel
theorem dX1_spelling_24 : decode cX1_spelling 24 = .ok (.ifCond .lt 55, 3) := by decide +kernel
theorem dX1_spelling_27 : decode cX1_spelling 27 = .ok (.iload_n 2, 1) := by decide +kernel
theorem dX1_spelling_28 : decode cX1_spelling 28 = .ok (.sipush 4096, 3) := by decide +kernel
theorem dX1_spelling_31 : decode cX1_spelling 31 = .ok (.if_icmp .ge 48, 3) := by decide +kernel
theorem dX1_spelling_34 : decode cX1_spelling 34 = .ok (.lload_n 3, 1) := by decide +kernel
theorem dX1_spelling_35 : decode cX1_spelling 35 = .ok (.bipush 8, 2) := by decide +kernel
theorem dX1_spelling_37 : decode cX1_spelling 37 = .ok (.lshl, 1) := by decide +kernel
theorem dX1_spelling_38 : decode cX1_spelling 38 = .ok (.bipush 8, 2) := by decide +kernel
theorem dX1_spelling_40 : decode cX1_spelling 40 = .ok (.iload_n 2, 1) := by decide +kernel
theorem dX1_spelling_41 : decode cX1_spelling 41 = .ok (.imul, 1) := by decide +kernel
theorem dX1_spelling_42 : decode cX1_spelling 42 = .ok (.iload 5, 2) := by decide +kernel
theorem dX1_spelling_44 : decode cX1_spelling 44 = .ok (.iadd, 1) := by decide +kernel
theorem dX1_spelling_45 : decode cX1_spelling 45 = .ok (.aload_n 0, 1) := by decide +kernel
theorem dX1_spelling_46 : decode cX1_spelling 46 = .ok (.getfield 27, 3) := by decide +kernel
theorem dX1_spelling_49 : decode cX1_spelling 49 = .ok (.iload_n 1, 1) := by decide +kernel
theorem dX1_spelling_50 : decode cX1_spelling 50 = .ok (.iaload, 1) := by decide +kernel
theorem dX1_spelling_51 : decode cX1_spelling 51 = .ok (.if_icmp .ge 18, 3) := by decide +kernel
theorem dX1_spelling_54 : decode cX1_spelling 54 = .ok (.aload_n 0, 1) := by decide +kernel
theorem dX1_spelling_55 : decode cX1_spelling 55 = .ok (.iload_n 1, 1) := by decide +kernel
theorem dX1_spelling_56 : decode cX1_spelling 56 = .ok (.bipush 8, 2) := by decide +kernel
theorem dX1_spelling_58 : decode cX1_spelling 58 = .ok (.iload_n 2, 1) := by decide +kernel
theorem dX1_spelling_59 : decode cX1_spelling 59 = .ok (.imul, 1) := by decide +kernel
theorem dX1_spelling_60 : decode cX1_spelling 60 = .ok (.iload 5, 2) := by decide +kernel
theorem dX1_spelling_62 : decode cX1_spelling 62 = .ok (.iadd, 1) := by decide +kernel
theorem dX1_spelling_63 : decode cX1_spelling 63 = .ok (.invokevirtual 136, 3) := by decide +kernel
theorem dX1_spelling_66 : decode cX1_spelling 66 = .ok (.goto 4, 3) := by decide +kernel
theorem dX1_spelling_69 : decode cX1_spelling 69 = .ok (.iconst 0, 1) := by decide +kernel
theorem dX1_spelling_70 : decode cX1_spelling 70 = .ok (.i2l, 1) := by decide +kernel
theorem dX1_spelling_71 : decode cX1_spelling 71 = .ok (.lor, 1) := by decide +kernel
theorem dX1_spelling_72 : decode cX1_spelling 72 = .ok (.lstore_n 3, 1) := by decide +kernel
theorem dX1_spelling_73 : decode cX1_spelling 73 = .ok (.iinc 5 (-1), 3) := by decide +kernel
theorem dX1_spelling_76 : decode cX1_spelling 76 = .ok (.goto (-70), 3) := by decide +kernel
theorem dX1_spelling_79 : decode cX1_spelling 79 = .ok (.lload_n 3, 1) := by decide +kernel
theorem dX1_spelling_80 : decode cX1_spelling 80 = .ok (.lreturn, 1) := by decide +kernel
end
section
/-! decode rows -/
theorem dL_law_0 : decode code 0 = .ok (.new 7, 3) := by decide +kernel
theorem dL_law_3 : decode code 3 = .ok (.dup, 1) := by decide +kernel
theorem dL_law_4 : decode code 4 = .ok (.invokespecial 9, 3) := by decide +kernel
theorem dL_law_7 : decode code 7 = .ok (.astore_n 1, 1) := by decide +kernel
theorem dL_law_8 : decode code 8 = .ok (.new 10, 3) := by decide +kernel
theorem dL_law_11 : decode code 11 = .ok (.dup, 1) := by decide +kernel
theorem dL_law_12 : decode code 12 = .ok (.invokespecial 12, 3) := by decide +kernel
theorem dL_law_15 : decode code 15 = .ok (.astore_n 2, 1) := by decide +kernel
theorem dL_law_16 : decode code 16 = .ok (.iconst 0, 1) := by decide +kernel
theorem dL_law_17 : decode code 17 = .ok (.istore_n 3, 1) := by decide +kernel
theorem dL_law_18 : decode code 18 = .ok (.iload_n 3, 1) := by decide +kernel
theorem dL_law_19 : decode code 19 = .ok (.aload_n 0, 1) := by decide +kernel
theorem dL_law_20 : decode code 20 = .ok (.arraylength, 1) := by decide +kernel
theorem dL_law_21 : decode code 21 = .ok (.iconst 4, 1) := by decide +kernel
theorem dL_law_22 : decode code 22 = .ok (.isub, 1) := by decide +kernel
theorem dL_law_23 : decode code 23 = .ok (.if_icmp .gt 286, 3) := by decide +kernel
theorem dL_law_26 : decode code 26 = .ok (.aload_n 0, 1) := by decide +kernel
theorem dL_law_27 : decode code 27 = .ok (.iload_n 3, 1) := by decide +kernel
theorem dL_law_28 : decode code 28 = .ok (.iaload, 1) := by decide +kernel
theorem dL_law_29 : decode code 29 = .ok (.bipush 7, 2) := by decide +kernel
theorem dL_law_31 : decode code 31 = .ok (.iand, 1) := by decide +kernel
theorem dL_law_32 : decode code 32 = .ok (.tableswitch 271 0 7 #[48, 111, 144, 157, 168, 181, 204, 237], 48) := by decide +kernel
theorem dL_law_80 : decode code 80 = .ok (.aload_n 1, 1) := by decide +kernel
theorem dL_law_81 : decode code 81 = .ok (.aload_n 0, 1) := by decide +kernel
theorem dL_law_82 : decode code 82 = .ok (.iload_n 3, 1) := by decide +kernel
theorem dL_law_83 : decode code 83 = .ok (.iconst 1, 1) := by decide +kernel
theorem dL_law_84 : decode code 84 = .ok (.iadd, 1) := by decide +kernel
theorem dL_law_85 : decode code 85 = .ok (.iaload, 1) := by decide +kernel
theorem dL_law_86 : decode code 86 = .ok (.i2l, 1) := by decide +kernel
theorem dL_law_87 : decode code 87 = .ok (.bipush 32, 2) := by decide +kernel
theorem dL_law_89 : decode code 89 = .ok (.lshl, 1) := by decide +kernel
theorem dL_law_90 : decode code 90 = .ok (.aload_n 0, 1) := by decide +kernel
theorem dL_law_91 : decode code 91 = .ok (.iload_n 3, 1) := by decide +kernel
theorem dL_law_92 : decode code 92 = .ok (.iconst 2, 1) := by decide +kernel
theorem dL_law_93 : decode code 93 = .ok (.iadd, 1) := by decide +kernel
theorem dL_law_94 : decode code 94 = .ok (.iaload, 1) := by decide +kernel
theorem dL_law_95 : decode code 95 = .ok (.i2l, 1) := by decide +kernel
theorem dL_law_96 : decode code 96 = .ok (.ldc2_w 13, 3) := by decide +kernel
theorem dL_law_99 : decode code 99 = .ok (.land, 1) := by decide +kernel
theorem dL_law_100 : decode code 100 = .ok (.lor, 1) := by decide +kernel
theorem dL_law_101 : decode code 101 = .ok (.aload_n 0, 1) := by decide +kernel
theorem dL_law_102 : decode code 102 = .ok (.iload_n 3, 1) := by decide +kernel
theorem dL_law_103 : decode code 103 = .ok (.iconst 3, 1) := by decide +kernel
theorem dL_law_104 : decode code 104 = .ok (.iadd, 1) := by decide +kernel
theorem dL_law_105 : decode code 105 = .ok (.iaload, 1) := by decide +kernel
theorem dL_law_106 : decode code 106 = .ok (.invokevirtual 15, 3) := by decide +kernel
theorem dL_law_109 : decode code 109 = .ok (.aload_n 2, 1) := by decide +kernel
theorem dL_law_110 : decode code 110 = .ok (.aload_n 0, 1) := by decide +kernel
theorem dL_law_111 : decode code 111 = .ok (.iload_n 3, 1) := by decide +kernel
theorem dL_law_112 : decode code 112 = .ok (.iconst 1, 1) := by decide +kernel
theorem dL_law_113 : decode code 113 = .ok (.iadd, 1) := by decide +kernel
theorem dL_law_114 : decode code 114 = .ok (.iaload, 1) := by decide +kernel
theorem dL_law_115 : decode code 115 = .ok (.i2l, 1) := by decide +kernel
theorem dL_law_116 : decode code 116 = .ok (.bipush 32, 2) := by decide +kernel
theorem dL_law_118 : decode code 118 = .ok (.lshl, 1) := by decide +kernel
theorem dL_law_119 : decode code 119 = .ok (.aload_n 0, 1) := by decide +kernel
theorem dL_law_120 : decode code 120 = .ok (.iload_n 3, 1) := by decide +kernel
theorem dL_law_121 : decode code 121 = .ok (.iconst 2, 1) := by decide +kernel
theorem dL_law_122 : decode code 122 = .ok (.iadd, 1) := by decide +kernel
theorem dL_law_123 : decode code 123 = .ok (.iaload, 1) := by decide +kernel
theorem dL_law_124 : decode code 124 = .ok (.i2l, 1) := by decide +kernel
theorem dL_law_125 : decode code 125 = .ok (.ldc2_w 13, 3) := by decide +kernel
theorem dL_law_128 : decode code 128 = .ok (.land, 1) := by decide +kernel
theorem dL_law_129 : decode code 129 = .ok (.lor, 1) := by decide +kernel
theorem dL_law_130 : decode code 130 = .ok (.aload_n 0, 1) := by decide +kernel
theorem dL_law_131 : decode code 131 = .ok (.iload_n 3, 1) := by decide +kernel
theorem dL_law_132 : decode code 132 = .ok (.iconst 3, 1) := by decide +kernel
theorem dL_law_133 : decode code 133 = .ok (.iadd, 1) := by decide +kernel
theorem dL_law_134 : decode code 134 = .ok (.iaload, 1) := by decide +kernel
theorem dL_law_135 : decode code 135 = .ok (.invokevirtual 19, 3) := by decide +kernel
theorem dL_law_138 : decode code 138 = .ok (.if_icmp .eq 165, 3) := by decide +kernel
theorem dL_law_141 : decode code 141 = .ok (.iconst 0, 1) := by decide +kernel
theorem dL_law_142 : decode code 142 = .ok (.ireturn, 1) := by decide +kernel
theorem dL_law_143 : decode code 143 = .ok (.aload_n 1, 1) := by decide +kernel
theorem dL_law_144 : decode code 144 = .ok (.aload_n 0, 1) := by decide +kernel
theorem dL_law_145 : decode code 145 = .ok (.iload_n 3, 1) := by decide +kernel
theorem dL_law_146 : decode code 146 = .ok (.iconst 1, 1) := by decide +kernel
theorem dL_law_147 : decode code 147 = .ok (.iadd, 1) := by decide +kernel
theorem dL_law_148 : decode code 148 = .ok (.iaload, 1) := by decide +kernel
theorem dL_law_149 : decode code 149 = .ok (.aload_n 0, 1) := by decide +kernel
theorem dL_law_150 : decode code 150 = .ok (.iload_n 3, 1) := by decide +kernel
theorem dL_law_151 : decode code 151 = .ok (.iconst 2, 1) := by decide +kernel
theorem dL_law_152 : decode code 152 = .ok (.iadd, 1) := by decide +kernel
theorem dL_law_153 : decode code 153 = .ok (.iaload, 1) := by decide +kernel
theorem dL_law_154 : decode code 154 = .ok (.invokevirtual 20, 3) := by decide +kernel
theorem dL_law_157 : decode code 157 = .ok (.aload_n 2, 1) := by decide +kernel
theorem dL_law_158 : decode code 158 = .ok (.aload_n 0, 1) := by decide +kernel
theorem dL_law_159 : decode code 159 = .ok (.iload_n 3, 1) := by decide +kernel
theorem dL_law_160 : decode code 160 = .ok (.iconst 1, 1) := by decide +kernel
theorem dL_law_161 : decode code 161 = .ok (.iadd, 1) := by decide +kernel
theorem dL_law_162 : decode code 162 = .ok (.iaload, 1) := by decide +kernel
theorem dL_law_163 : decode code 163 = .ok (.aload_n 0, 1) := by decide +kernel
theorem dL_law_164 : decode code 164 = .ok (.iload_n 3, 1) := by decide +kernel
theorem dL_law_165 : decode code 165 = .ok (.iconst 2, 1) := by decide +kernel
theorem dL_law_166 : decode code 166 = .ok (.iadd, 1) := by decide +kernel
theorem dL_law_167 : decode code 167 = .ok (.iaload, 1) := by decide +kernel
theorem dL_law_168 : decode code 168 = .ok (.invokevirtual 24, 3) := by decide +kernel
theorem dL_law_171 : decode code 171 = .ok (.if_icmp .eq 132, 3) := by decide +kernel
theorem dL_law_174 : decode code 174 = .ok (.iconst 0, 1) := by decide +kernel
theorem dL_law_175 : decode code 175 = .ok (.ireturn, 1) := by decide +kernel
theorem dL_law_176 : decode code 176 = .ok (.aload_n 1, 1) := by decide +kernel
theorem dL_law_177 : decode code 177 = .ok (.invokevirtual 25, 3) := by decide +kernel
theorem dL_law_180 : decode code 180 = .ok (.aload_n 2, 1) := by decide +kernel
theorem dL_law_181 : decode code 181 = .ok (.invokevirtual 29, 3) := by decide +kernel
theorem dL_law_184 : decode code 184 = .ok (.if_icmp .eq 119, 3) := by decide +kernel
theorem dL_law_187 : decode code 187 = .ok (.iconst 0, 1) := by decide +kernel
theorem dL_law_188 : decode code 188 = .ok (.ireturn, 1) := by decide +kernel
theorem dL_law_189 : decode code 189 = .ok (.aload_n 1, 1) := by decide +kernel
theorem dL_law_190 : decode code 190 = .ok (.invokevirtual 30, 3) := by decide +kernel
theorem dL_law_193 : decode code 193 = .ok (.aload_n 2, 1) := by decide +kernel
theorem dL_law_194 : decode code 194 = .ok (.invokevirtual 33, 3) := by decide +kernel
theorem dL_law_197 : decode code 197 = .ok (.goto 106, 3) := by decide +kernel
theorem dL_law_200 : decode code 200 = .ok (.aload_n 1, 1) := by decide +kernel
theorem dL_law_201 : decode code 201 = .ok (.invokevirtual 34, 3) := by decide +kernel
theorem dL_law_204 : decode code 204 = .ok (.aload_n 2, 1) := by decide +kernel
theorem dL_law_205 : decode code 205 = .ok (.invokevirtual 37, 3) := by decide +kernel
theorem dL_law_208 : decode code 208 = .ok (.if_icmp .eq 95, 3) := by decide +kernel
theorem dL_law_211 : decode code 211 = .ok (.iconst 0, 1) := by decide +kernel
theorem dL_law_212 : decode code 212 = .ok (.ireturn, 1) := by decide +kernel
theorem dL_law_213 : decode code 213 = .ok (.aload_n 1, 1) := by decide +kernel
theorem dL_law_214 : decode code 214 = .ok (.aload_n 0, 1) := by decide +kernel
theorem dL_law_215 : decode code 215 = .ok (.iload_n 3, 1) := by decide +kernel
theorem dL_law_216 : decode code 216 = .ok (.iconst 1, 1) := by decide +kernel
theorem dL_law_217 : decode code 217 = .ok (.iadd, 1) := by decide +kernel
theorem dL_law_218 : decode code 218 = .ok (.iaload, 1) := by decide +kernel
theorem dL_law_219 : decode code 219 = .ok (.invokevirtual 38, 3) := by decide +kernel
theorem dL_law_222 : decode code 222 = .ok (.aload_n 2, 1) := by decide +kernel
theorem dL_law_223 : decode code 223 = .ok (.aload_n 0, 1) := by decide +kernel
theorem dL_law_224 : decode code 224 = .ok (.iload_n 3, 1) := by decide +kernel
theorem dL_law_225 : decode code 225 = .ok (.iconst 1, 1) := by decide +kernel
theorem dL_law_226 : decode code 226 = .ok (.iadd, 1) := by decide +kernel
theorem dL_law_227 : decode code 227 = .ok (.iaload, 1) := by decide +kernel
theorem dL_law_228 : decode code 228 = .ok (.invokevirtual 42, 3) := by decide +kernel
theorem dL_law_231 : decode code 231 = .ok (.if_icmp .eq 72, 3) := by decide +kernel
theorem dL_law_234 : decode code 234 = .ok (.iconst 0, 1) := by decide +kernel
theorem dL_law_235 : decode code 235 = .ok (.ireturn, 1) := by decide +kernel
theorem dL_law_236 : decode code 236 = .ok (.aload_n 1, 1) := by decide +kernel
theorem dL_law_237 : decode code 237 = .ok (.aload_n 0, 1) := by decide +kernel
theorem dL_law_238 : decode code 238 = .ok (.iload_n 3, 1) := by decide +kernel
theorem dL_law_239 : decode code 239 = .ok (.iconst 1, 1) := by decide +kernel
theorem dL_law_240 : decode code 240 = .ok (.iadd, 1) := by decide +kernel
theorem dL_law_241 : decode code 241 = .ok (.iaload, 1) := by decide +kernel
theorem dL_law_242 : decode code 242 = .ok (.aload_n 0, 1) := by decide +kernel
theorem dL_law_243 : decode code 243 = .ok (.iload_n 3, 1) := by decide +kernel
theorem dL_law_244 : decode code 244 = .ok (.iconst 2, 1) := by decide +kernel
theorem dL_law_245 : decode code 245 = .ok (.iadd, 1) := by decide +kernel
theorem dL_law_246 : decode code 246 = .ok (.iaload, 1) := by decide +kernel
theorem dL_law_247 : decode code 247 = .ok (.invokevirtual 43, 3) := by decide +kernel
theorem dL_law_250 : decode code 250 = .ok (.aload_n 2, 1) := by decide +kernel
theorem dL_law_251 : decode code 251 = .ok (.aload_n 0, 1) := by decide +kernel
theorem dL_law_252 : decode code 252 = .ok (.iload_n 3, 1) := by decide +kernel
theorem dL_law_253 : decode code 253 = .ok (.iconst 1, 1) := by decide +kernel
theorem dL_law_254 : decode code 254 = .ok (.iadd, 1) := by decide +kernel
theorem dL_law_255 : decode code 255 = .ok (.iaload, 1) := by decide +kernel
theorem dL_law_256 : decode code 256 = .ok (.aload_n 0, 1) := by decide +kernel
theorem dL_law_257 : decode code 257 = .ok (.iload_n 3, 1) := by decide +kernel
theorem dL_law_258 : decode code 258 = .ok (.iconst 2, 1) := by decide +kernel
theorem dL_law_259 : decode code 259 = .ok (.iadd, 1) := by decide +kernel
theorem dL_law_260 : decode code 260 = .ok (.iaload, 1) := by decide +kernel
theorem dL_law_261 : decode code 261 = .ok (.invokevirtual 46, 3) := by decide +kernel
theorem dL_law_264 : decode code 264 = .ok (.if_icmp .eq 39, 3) := by decide +kernel
theorem dL_law_267 : decode code 267 = .ok (.iconst 0, 1) := by decide +kernel
theorem dL_law_268 : decode code 268 = .ok (.ireturn, 1) := by decide +kernel
theorem dL_law_269 : decode code 269 = .ok (.aload_n 1, 1) := by decide +kernel
theorem dL_law_270 : decode code 270 = .ok (.aload_n 0, 1) := by decide +kernel
theorem dL_law_271 : decode code 271 = .ok (.iload_n 3, 1) := by decide +kernel
theorem dL_law_272 : decode code 272 = .ok (.iconst 1, 1) := by decide +kernel
theorem dL_law_273 : decode code 273 = .ok (.iadd, 1) := by decide +kernel
theorem dL_law_274 : decode code 274 = .ok (.iaload, 1) := by decide +kernel
theorem dL_law_275 : decode code 275 = .ok (.aload_n 0, 1) := by decide +kernel
theorem dL_law_276 : decode code 276 = .ok (.iload_n 3, 1) := by decide +kernel
theorem dL_law_277 : decode code 277 = .ok (.iconst 2, 1) := by decide +kernel
theorem dL_law_278 : decode code 278 = .ok (.iadd, 1) := by decide +kernel
theorem dL_law_279 : decode code 279 = .ok (.iaload, 1) := by decide +kernel
theorem dL_law_280 : decode code 280 = .ok (.invokevirtual 47, 3) := by decide +kernel
theorem dL_law_283 : decode code 283 = .ok (.aload_n 2, 1) := by decide +kernel
theorem dL_law_284 : decode code 284 = .ok (.aload_n 0, 1) := by decide +kernel
theorem dL_law_285 : decode code 285 = .ok (.iload_n 3, 1) := by decide +kernel
theorem dL_law_286 : decode code 286 = .ok (.iconst 1, 1) := by decide +kernel
theorem dL_law_287 : decode code 287 = .ok (.iadd, 1) := by decide +kernel
theorem dL_law_288 : decode code 288 = .ok (.iaload, 1) := by decide +kernel
theorem dL_law_289 : decode code 289 = .ok (.aload_n 0, 1) := by decide +kernel
theorem dL_law_290 : decode code 290 = .ok (.iload_n 3, 1) := by decide +kernel
theorem dL_law_291 : decode code 291 = .ok (.iconst 2, 1) := by decide +kernel
theorem dL_law_292 : decode code 292 = .ok (.iadd, 1) := by decide +kernel
theorem dL_law_293 : decode code 293 = .ok (.iaload, 1) := by decide +kernel
theorem dL_law_294 : decode code 294 = .ok (.invokevirtual 51, 3) := by decide +kernel
theorem dL_law_297 : decode code 297 = .ok (.lcmp, 1) := by decide +kernel
theorem dL_law_298 : decode code 298 = .ok (.ifCond .eq 5, 3) := by decide +kernel
theorem dL_law_301 : decode code 301 = .ok (.iconst 0, 1) := by decide +kernel
theorem dL_law_302 : decode code 302 = .ok (.ireturn, 1) := by decide +kernel
theorem dL_law_303 : decode code 303 = .ok (.iinc 3 4, 3) := by decide +kernel
theorem dL_law_306 : decode code 306 = .ok (.goto (-288), 3) := by decide +kernel
theorem dL_law_309 : decode code 309 = .ok (.iconst 1, 1) := by decide +kernel
theorem dL_law_310 : decode code 310 = .ok (.ireturn, 1) := by decide +kernel
theorem dJ0_length_0 : decode cJ0_length 0 = .ok (.aload_n 0, 1) := by decide +kernel
theorem dJ0_length_1 : decode cJ0_length 1 = .ok (.getfield 9, 3) := by decide +kernel
theorem dJ0_length_4 : decode cJ0_length 4 = .ok (.arraylength, 1) := by decide +kernel
theorem dJ0_length_5 : decode cJ0_length 5 = .ok (.aload_n 0, 1) := by decide +kernel
theorem dJ0_length_6 : decode cJ0_length 6 = .ok (.invokevirtual 335, 3) := by decide +kernel
theorem dJ0_length_9 : decode cJ0_length 9 = .ok (.ishr, 1) := by decide +kernel
theorem dJ0_length_10 : decode cJ0_length 10 = .ok (.ireturn, 1) := by decide +kernel
theorem dJ0_charAt_0 : decode cJ0_charAt 0 = .ok (.aload_n 0, 1) := by decide +kernel
theorem dJ0_charAt_1 : decode cJ0_charAt 1 = .ok (.invokevirtual 492, 3) := by decide +kernel
theorem dJ0_charAt_4 : decode cJ0_charAt 4 = .ok (.ifCond .eq 12, 3) := by decide +kernel
theorem dJ0_charAt_7 : decode cJ0_charAt 7 = .ok (.aload_n 0, 1) := by decide +kernel
theorem dJ0_charAt_8 : decode cJ0_charAt 8 = .ok (.getfield 9, 3) := by decide +kernel
theorem dJ0_charAt_11 : decode cJ0_charAt 11 = .ok (.iload_n 1, 1) := by decide +kernel
theorem dJ0_charAt_12 : decode cJ0_charAt 12 = .ok (.invokestatic 495, 3) := by decide +kernel
theorem dJ0_charAt_15 : decode cJ0_charAt 15 = .ok (.ireturn, 1) := by decide +kernel
theorem dJ0_charAt_16 : decode cJ0_charAt 16 = .ok (.aload_n 0, 1) := by decide +kernel
theorem dJ0_charAt_17 : decode cJ0_charAt 17 = .ok (.getfield 9, 3) := by decide +kernel
theorem dJ0_charAt_20 : decode cJ0_charAt 20 = .ok (.iload_n 1, 1) := by decide +kernel
theorem dJ0_charAt_21 : decode cJ0_charAt 21 = .ok (.invokestatic 498, 3) := by decide +kernel
theorem dJ0_charAt_24 : decode cJ0_charAt 24 = .ok (.ireturn, 1) := by decide +kernel
theorem dJ0_coder_0 : decode cJ0_coder 0 = .ok (.getstatic 38, 3) := by decide +kernel
theorem dJ0_coder_3 : decode cJ0_coder 3 = .ok (.ifCond .eq 10, 3) := by decide +kernel
theorem dJ0_coder_6 : decode cJ0_coder 6 = .ok (.aload_n 0, 1) := by decide +kernel
theorem dJ0_coder_7 : decode cJ0_coder 7 = .ok (.getfield 15, 3) := by decide +kernel
theorem dJ0_coder_10 : decode cJ0_coder 10 = .ok (.goto 4, 3) := by decide +kernel
theorem dJ0_coder_13 : decode cJ0_coder 13 = .ok (.iconst 1, 1) := by decide +kernel
theorem dJ0_coder_14 : decode cJ0_coder 14 = .ok (.ireturn, 1) := by decide +kernel
theorem dJ0_isLatin1_0 : decode cJ0_isLatin1 0 = .ok (.getstatic 38, 3) := by decide +kernel
theorem dJ0_isLatin1_3 : decode cJ0_isLatin1 3 = .ok (.ifCond .eq 14, 3) := by decide +kernel
theorem dJ0_isLatin1_6 : decode cJ0_isLatin1 6 = .ok (.aload_n 0, 1) := by decide +kernel
theorem dJ0_isLatin1_7 : decode cJ0_isLatin1 7 = .ok (.getfield 15, 3) := by decide +kernel
theorem dJ0_isLatin1_10 : decode cJ0_isLatin1 10 = .ok (.ifCond .ne 7, 3) := by decide +kernel
theorem dJ0_isLatin1_13 : decode cJ0_isLatin1 13 = .ok (.iconst 1, 1) := by decide +kernel
theorem dJ0_isLatin1_14 : decode cJ0_isLatin1 14 = .ok (.goto 4, 3) := by decide +kernel
theorem dJ0_isLatin1_17 : decode cJ0_isLatin1 17 = .ok (.iconst 0, 1) := by decide +kernel
theorem dJ0_isLatin1_18 : decode cJ0_isLatin1 18 = .ok (.ireturn, 1) := by decide +kernel
theorem dJ0_checkIndex_0 : decode cJ0_checkIndex 0 = .ok (.iload_n 0, 1) := by decide +kernel
theorem dJ0_checkIndex_1 : decode cJ0_checkIndex 1 = .ok (.iload_n 1, 1) := by decide +kernel
theorem dJ0_checkIndex_2 : decode cJ0_checkIndex 2 = .ok (.getstatic 1053, 3) := by decide +kernel
theorem dJ0_checkIndex_5 : decode cJ0_checkIndex 5 = .ok (.invokestatic 1059, 3) := by decide +kernel
theorem dJ0_checkIndex_8 : decode cJ0_checkIndex 8 = .ok (.pop, 1) := by decide +kernel
theorem dJ0_checkIndex_9 : decode cJ0_checkIndex 9 = .ok (.return_, 1) := by decide +kernel
theorem dJ1_charAt_0 : decode cJ1_charAt 0 = .ok (.iload_n 1, 1) := by decide +kernel
theorem dJ1_charAt_1 : decode cJ1_charAt 1 = .ok (.aload_n 0, 1) := by decide +kernel
theorem dJ1_charAt_2 : decode cJ1_charAt 2 = .ok (.arraylength, 1) := by decide +kernel
theorem dJ1_charAt_3 : decode cJ1_charAt 3 = .ok (.invokestatic 9, 3) := by decide +kernel
theorem dJ1_charAt_6 : decode cJ1_charAt 6 = .ok (.aload_n 0, 1) := by decide +kernel
theorem dJ1_charAt_7 : decode cJ1_charAt 7 = .ok (.iload_n 1, 1) := by decide +kernel
theorem dJ1_charAt_8 : decode cJ1_charAt 8 = .ok (.baload, 1) := by decide +kernel
theorem dJ1_charAt_9 : decode cJ1_charAt 9 = .ok (.sipush 255, 3) := by decide +kernel
theorem dJ1_charAt_12 : decode cJ1_charAt 12 = .ok (.iand, 1) := by decide +kernel
theorem dJ1_charAt_13 : decode cJ1_charAt 13 = .ok (.i2c, 1) := by decide +kernel
theorem dJ1_charAt_14 : decode cJ1_charAt 14 = .ok (.ireturn, 1) := by decide +kernel
theorem dJ2_getChar_0 : decode cJ2_getChar 0 = .ok (.getstatic 44, 3) := by decide +kernel
theorem dJ2_getChar_3 : decode cJ2_getChar 3 = .ok (.ifCond .ne 25, 3) := by decide +kernel
theorem dJ2_getChar_6 : decode cJ2_getChar 6 = .ok (.iload_n 1, 1) := by decide +kernel
theorem dJ2_getChar_7 : decode cJ2_getChar 7 = .ok (.ifCond .lt 11, 3) := by decide +kernel
theorem dJ2_getChar_10 : decode cJ2_getChar 10 = .ok (.iload_n 1, 1) := by decide +kernel
theorem dJ2_getChar_11 : decode cJ2_getChar 11 = .ok (.aload_n 0, 1) := by decide +kernel
theorem dJ2_getChar_12 : decode cJ2_getChar 12 = .ok (.invokestatic 48, 3) := by decide +kernel
theorem dJ2_getChar_15 : decode cJ2_getChar 15 = .ok (.if_icmp .lt 13, 3) := by decide +kernel
theorem dJ2_getChar_18 : decode cJ2_getChar 18 = .ok (.new 52, 3) := by decide +kernel
theorem dJ2_getChar_21 : decode cJ2_getChar 21 = .ok (.dup, 1) := by decide +kernel
theorem dJ2_getChar_22 : decode cJ2_getChar 22 = .ok (.ldc 54, 2) := by decide +kernel
theorem dJ2_getChar_24 : decode cJ2_getChar 24 = .ok (.invokespecial 56, 3) := by decide +kernel
theorem dJ2_getChar_27 : decode cJ2_getChar 27 = .ok (.athrow, 1) := by decide +kernel
theorem dJ2_getChar_28 : decode cJ2_getChar 28 = .ok (.iload_n 1, 1) := by decide +kernel
theorem dJ2_getChar_29 : decode cJ2_getChar 29 = .ok (.iconst 1, 1) := by decide +kernel
theorem dJ2_getChar_30 : decode cJ2_getChar 30 = .ok (.ishl, 1) := by decide +kernel
theorem dJ2_getChar_31 : decode cJ2_getChar 31 = .ok (.istore_n 1, 1) := by decide +kernel
theorem dJ2_getChar_32 : decode cJ2_getChar 32 = .ok (.aload_n 0, 1) := by decide +kernel
theorem dJ2_getChar_33 : decode cJ2_getChar 33 = .ok (.iload_n 1, 1) := by decide +kernel
theorem dJ2_getChar_34 : decode cJ2_getChar 34 = .ok (.iinc 1 1, 3) := by decide +kernel
theorem dJ2_getChar_37 : decode cJ2_getChar 37 = .ok (.baload, 1) := by decide +kernel
theorem dJ2_getChar_38 : decode cJ2_getChar 38 = .ok (.sipush 255, 3) := by decide +kernel
theorem dJ2_getChar_41 : decode cJ2_getChar 41 = .ok (.iand, 1) := by decide +kernel
theorem dJ2_getChar_42 : decode cJ2_getChar 42 = .ok (.getstatic 59, 3) := by decide +kernel
theorem dJ2_getChar_45 : decode cJ2_getChar 45 = .ok (.ishl, 1) := by decide +kernel
theorem dJ2_getChar_46 : decode cJ2_getChar 46 = .ok (.aload_n 0, 1) := by decide +kernel
theorem dJ2_getChar_47 : decode cJ2_getChar 47 = .ok (.iload_n 1, 1) := by decide +kernel
theorem dJ2_getChar_48 : decode cJ2_getChar 48 = .ok (.baload, 1) := by decide +kernel
theorem dJ2_getChar_49 : decode cJ2_getChar 49 = .ok (.sipush 255, 3) := by decide +kernel
theorem dJ2_getChar_52 : decode cJ2_getChar 52 = .ok (.iand, 1) := by decide +kernel
theorem dJ2_getChar_53 : decode cJ2_getChar 53 = .ok (.getstatic 63, 3) := by decide +kernel
theorem dJ2_getChar_56 : decode cJ2_getChar 56 = .ok (.ishl, 1) := by decide +kernel
theorem dJ2_getChar_57 : decode cJ2_getChar 57 = .ok (.ior, 1) := by decide +kernel
theorem dJ2_getChar_58 : decode cJ2_getChar 58 = .ok (.i2c, 1) := by decide +kernel
theorem dJ2_getChar_59 : decode cJ2_getChar 59 = .ok (.ireturn, 1) := by decide +kernel
theorem dJ2_length_0 : decode cJ2_length 0 = .ok (.aload_n 0, 1) := by decide +kernel
theorem dJ2_length_1 : decode cJ2_length 1 = .ok (.arraylength, 1) := by decide +kernel
theorem dJ2_length_2 : decode cJ2_length 2 = .ok (.iconst 1, 1) := by decide +kernel
theorem dJ2_length_3 : decode cJ2_length 3 = .ok (.ishr, 1) := by decide +kernel
theorem dJ2_length_4 : decode cJ2_length 4 = .ok (.ireturn, 1) := by decide +kernel
theorem dJ2_charAt_0 : decode cJ2_charAt 0 = .ok (.iload_n 1, 1) := by decide +kernel
theorem dJ2_charAt_1 : decode cJ2_charAt 1 = .ok (.aload_n 0, 1) := by decide +kernel
theorem dJ2_charAt_2 : decode cJ2_charAt 2 = .ok (.invokestatic 67, 3) := by decide +kernel
theorem dJ2_charAt_5 : decode cJ2_charAt 5 = .ok (.aload_n 0, 1) := by decide +kernel
theorem dJ2_charAt_6 : decode cJ2_charAt 6 = .ok (.iload_n 1, 1) := by decide +kernel
theorem dJ2_charAt_7 : decode cJ2_charAt 7 = .ok (.invokestatic 71, 3) := by decide +kernel
theorem dJ2_charAt_10 : decode cJ2_charAt 10 = .ok (.ireturn, 1) := by decide +kernel
theorem dJ2_checkIndex_0 : decode cJ2_checkIndex 0 = .ok (.iload_n 0, 1) := by decide +kernel
theorem dJ2_checkIndex_1 : decode cJ2_checkIndex 1 = .ok (.aload_n 1, 1) := by decide +kernel
theorem dJ2_checkIndex_2 : decode cJ2_checkIndex 2 = .ok (.invokestatic 48, 3) := by decide +kernel
theorem dJ2_checkIndex_5 : decode cJ2_checkIndex 5 = .ok (.invokestatic 414, 3) := by decide +kernel
theorem dJ2_checkIndex_8 : decode cJ2_checkIndex 8 = .ok (.return_, 1) := by decide +kernel
theorem dJ3_checkIndex_0 : decode cJ3_checkIndex 0 = .ok (.iload_n 0, 1) := by decide +kernel
theorem dJ3_checkIndex_1 : decode cJ3_checkIndex 1 = .ok (.ifCond .lt 8, 3) := by decide +kernel
theorem dJ3_checkIndex_4 : decode cJ3_checkIndex 4 = .ok (.iload_n 0, 1) := by decide +kernel
theorem dJ3_checkIndex_5 : decode cJ3_checkIndex 5 = .ok (.iload_n 1, 1) := by decide +kernel
theorem dJ3_checkIndex_6 : decode cJ3_checkIndex 6 = .ok (.if_icmp .lt 10, 3) := by decide +kernel
theorem dJ3_checkIndex_9 : decode cJ3_checkIndex 9 = .ok (.aload_n 2, 1) := by decide +kernel
theorem dJ3_checkIndex_10 : decode cJ3_checkIndex 10 = .ok (.iload_n 0, 1) := by decide +kernel
theorem dJ3_checkIndex_11 : decode cJ3_checkIndex 11 = .ok (.iload_n 1, 1) := by decide +kernel
theorem dJ3_checkIndex_12 : decode cJ3_checkIndex 12 = .ok (.invokestatic 95, 3) := by decide +kernel
theorem dJ3_checkIndex_15 : decode cJ3_checkIndex 15 = .ok (.athrow, 1) := by decide +kernel
theorem dJ3_checkIndex_16 : decode cJ3_checkIndex 16 = .ok (.iload_n 0, 1) := by decide +kernel
theorem dJ3_checkIndex_17 : decode cJ3_checkIndex 17 = .ok (.ireturn, 1) := by decide +kernel
end
section
/-! bits of ints and longs (from the kit's laws, for pasting) -/
theorem nx_and (a b : Nat) : nI a &&& nI b = nI (a &&& b) := by
  apply Int32.toBitVec_inj.1
  show BitVec.ofNat 32 a &&& BitVec.ofNat 32 b = BitVec.ofNat 32 (a &&& b)
  apply BitVec.eq_of_getLsbD_eq
  intro i hi
  simp [hi]
theorem wb_tb (n : Nat) : (lN n).toBitVec = BitVec.ofNat 64 n := rfl
theorem wb_inj {a b : Int64} (h : a.toBitVec = b.toBitVec) : a = b := Int64.toBitVec_inj.mp h
theorem wb_tn {n : Nat} (h : n < 2 ^ 64) : (lN n).toBitVec.toNat = n := by rw [wb_tb, BitVec.toNat_ofNat, Nat.mod_eq_of_lt h]
theorem wb_of (x : Int64) : ∃ n, n < 2 ^ 64 ∧ x = lN n := ⟨x.toBitVec.toNat, x.toBitVec.isLt, wb_inj (by rw [wb_tb]; simp)⟩
theorem wb_of32 (x : Int32) : ∃ n, n < 2 ^ 32 ∧ x = nI n := ⟨x.toBitVec.toNat, x.toBitVec.isLt, Int32.toBitVec_inj.mp (by show _ = BitVec.ofNat 32 _; simp)⟩
theorem wb_c : ∀ k, k < 64 → ((nI k).toInt64 &&& 63) = lN k := by decide +kernel
theorem wb_cu : ∀ k, k < 64 → ((nI k).toInt64.toUInt64 &&& Int64.toUInt64 63) = UInt64.ofNat k := by decide +kernel
theorem wb_sm : ∀ k, k < 64 → (BitVec.ofNat 64 k).smod 64 = BitVec.ofNat 64 k := by decide +kernel
theorem wb_pw {a b : Nat} (h : a ≤ b) : 2 ^ b = 2 ^ a * 2 ^ (b - a) := by rw [← Nat.pow_add]; congr 1; omega
theorem wb_lt2 {a b : Nat} (h : a < b) : 2 ^ a < 2 ^ b := Nat.pow_lt_pow_right (by decide) h
theorem wb_mod (n : Nat) : lN n = lN (n % 2 ^ 64) := wb_inj (by rw [wb_tb, wb_tb]; apply BitVec.eq_of_toNat_eq; rw [BitVec.toNat_ofNat, BitVec.toNat_ofNat, Nat.mod_mod])
theorem wb_shr {n k : Nat} (hn : n < 2 ^ 64) (hk : k < 64) : ((lN n).toUInt64 >>> ((nI k).toInt64.toUInt64 &&& Int64.toUInt64 63)).toInt64 = lN (n / 2 ^ k) := by
  rw [wb_cu k hk]
  apply wb_inj
  apply BitVec.eq_of_toNat_eq
  show ((lN n).toUInt64 >>> UInt64.ofNat k).toNat = (BitVec.ofNat 64 _).toNat
  have h1 : (UInt64.ofNat k).toNat = k := by
    show (BitVec.ofNat 64 k).toNat = k
    rw [BitVec.toNat_ofNat, Nat.mod_eq_of_lt (by omega)]
  have h2 : (lN n).toUInt64.toNat = n := wb_tn hn
  rw [UInt64.toNat_shiftRight, h1, h2, Nat.mod_eq_of_lt hk, Nat.shiftRight_eq_div_pow, BitVec.toNat_ofNat, Nat.mod_eq_of_lt (Nat.lt_of_le_of_lt (Nat.div_le_self _ _) hn)]
theorem wb_shl (n : Nat) {k : Nat} (hk : k < 64) : lN n <<< ((nI k).toInt64 &&& 63) = lN (n * 2 ^ k) := by
  rw [wb_c k hk]
  apply wb_inj
  rw [Int64.toBitVec_shiftLeft, wb_tb, wb_tb, wb_tb, wb_sm k hk]
  apply BitVec.eq_of_toNat_eq
  rw [BitVec.shiftLeft_eq', BitVec.toNat_shiftLeft, BitVec.toNat_ofNat, BitVec.toNat_ofNat, BitVec.toNat_ofNat, Nat.mod_eq_of_lt (show k < 2 ^ 64 by omega), Nat.shiftLeft_eq, Nat.mul_mod, Nat.mod_mod, ← Nat.mul_mod]
theorem wb_and {a b : Nat} (ha : a < 2 ^ 64) (hb : b < 2 ^ 64) : lN a &&& lN b = lN (a &&& b) := by
  apply wb_inj
  rw [Int64.toBitVec_and, wb_tb, wb_tb, wb_tb]
  apply BitVec.eq_of_toNat_eq
  rw [BitVec.toNat_and, BitVec.toNat_ofNat, BitVec.toNat_ofNat, BitVec.toNat_ofNat, Nat.mod_eq_of_lt ha, Nat.mod_eq_of_lt hb, Nat.mod_eq_of_lt (Nat.and_lt_two_pow _ hb)]
theorem wb_or {a b : Nat} (ha : a < 2 ^ 64) (hb : b < 2 ^ 64) : lN a ||| lN b = lN (a ||| b) := by
  apply wb_inj
  rw [Int64.toBitVec_or, wb_tb, wb_tb, wb_tb]
  apply BitVec.eq_of_toNat_eq
  rw [BitVec.toNat_or, BitVec.toNat_ofNat, BitVec.toNat_ofNat, BitVec.toNat_ofNat, Nat.mod_eq_of_lt ha, Nat.mod_eq_of_lt hb, Nat.mod_eq_of_lt (Nat.or_lt_two_pow ha hb)]
theorem wb_mask {n k : Nat} (hn : n < 2 ^ 64) (hk : k < 64) : lN n &&& lN (2 ^ k - 1) = lN (n % 2 ^ k) := by
  rw [wb_and hn (by have := wb_lt2 hk; omega), Nat.and_two_pow_sub_one_eq_mod]
theorem wb_a1 {n : Nat} (hn : n < 2 ^ 64) : lN n &&& 1 = lN (n % 2) := wb_mask (k := 1) hn (by decide)
theorem wb_bit {n k : Nat} (hn : n < 2 ^ 64) (hk : k < 64) : ((lN n).toUInt64 >>> ((nI k).toInt64.toUInt64 &&& Int64.toUInt64 63)).toInt64 &&& 1 = lN (n / 2 ^ k % 2) := by
  rw [wb_shr hn hk, wb_a1 (Nat.lt_of_le_of_lt (Nat.div_le_self _ _) hn)]
theorem wb_xor {q k : Nat} (hk : k < 63) (h : 2 ^ k ≤ q) (h2 : q < 2 ^ (k + 1)) : lN q ^^^ lN (2 ^ k) = lN (q - 2 ^ k) := by
  obtain ⟨r, rfl⟩ : ∃ r, q = 2 ^ k + r := ⟨q - 2 ^ k, by omega⟩
  have hr : r < 2 ^ k := by rw [Nat.pow_succ] at h2; omega
  have hx : (2 ^ k + r) ^^^ 2 ^ k = r := by
    apply Nat.eq_of_testBit_eq
    intro i
    rw [Nat.testBit_xor, Nat.testBit_two_pow]
    rcases Nat.lt_trichotomy i k with h | h | h
    · rw [Nat.testBit_two_pow_add_gt h]
      simp [show ¬ k = i by omega]
    · subst h
      rw [Nat.testBit_two_pow_add_eq]
      simp
    · have a1 : 2 ^ (k + 1) ≤ 2 ^ i := Nat.pow_le_pow_right (by decide) h
      rw [Nat.testBit_lt_two_pow (show 2 ^ k + r < 2 ^ i by omega), Nat.testBit_lt_two_pow (show r < 2 ^ i by omega)]
      simp [show ¬ k = i by omega]
  have b1 := wb_lt2 (show k + 1 < 64 by omega)
  have b2 := wb_lt2 (show k < 64 by omega)
  apply wb_inj
  rw [Int64.toBitVec_xor, wb_tb, wb_tb, wb_tb]
  apply BitVec.eq_of_toNat_eq
  rw [BitVec.toNat_xor, BitVec.toNat_ofNat, BitVec.toNat_ofNat, BitVec.toNat_ofNat, Nat.mod_eq_of_lt (by omega : 2 ^ k + r < 2 ^ 64), Nat.mod_eq_of_lt b2, hx, Nat.add_sub_cancel_left, Nat.mod_eq_of_lt (by omega)]
end
section
/-! LineMill's state: Z its int fields by their slot's number, T the packed text, K the packed tokens; cells a0 (object), a1 (text), a2 (tokens) -/
def zu (Z : Nat → Nat) (k v : Nat) : Nat → Nat := fun j => bif Nat.beq j k then v else Z j
theorem zu_eq (Z : Nat → Nat) (k v : Nat) : zu Z k v k = v := by simp [zu]
theorem zu_ne {Z : Nat → Nat} {k v j : Nat} (h : j ≠ k) : zu Z k v j = Z j := by
  have h1 : Nat.beq j k = false := by
    cases q : Nat.beq j k with
    | false => rfl
    | true => exact absurd (Nat.eq_of_beq_eq_true q) h
  simp [zu, h1]
def b2i (b : Bool) : Int32 := bif b then 1 else 0
theorem b2i_z (b : Bool) : b2i b = 0 ↔ b = false := by cases b <;> decide
def bI (x : Nat) : Int32 := if x < 256 then nI x else -1
theorem bI_T (x : Nat) : (bI x).toInt = if x < 256 then (x : Int) else -1 := by
  unfold bI
  by_cases h : x < 256
  · rw [if_pos h, if_pos h, nI_toInt (by omega)]
  · rw [if_neg h, if_neg h]; decide
theorem bI_lo {x : Nat} (h : x < 256) : bI x = nI x := if_pos h
theorem bI_hi {x : Nat} (h : 256 ≤ x) : bI x = -1 := if_neg (by omega)
theorem bI_eqN {x k : Nat} (hk : k < 256) : bI x = nI k ↔ x = k := by
  rw [← Int32.toInt_inj, bI_T, nI_toInt (by omega)]
  by_cases h : x < 256
  · rw [if_pos h]; omega
  · rw [if_neg h]; omega
theorem bI_ltN {x k : Nat} (hk : k < 256) : bI x < nI k ↔ (x < k ∨ 256 ≤ x) := by
  rw [Int32.lt_iff_toInt_lt, bI_T, nI_toInt (by omega)]
  by_cases h : x < 256
  · rw [if_pos h]; omega
  · rw [if_neg h]; omega
theorem bI_leN {x k : Nat} (hk : k < 256) : bI x ≤ nI k ↔ (x ≤ k ∨ 256 ≤ x) := by
  rw [Int32.le_iff_toInt_le, bI_T, nI_toInt (by omega)]
  by_cases h : x < 256
  · rw [if_pos h]; omega
  · rw [if_neg h]; omega
theorem bI_Neq {x k : Nat} (hk : k < 256) : nI k = bI x ↔ k = x := by
  rw [← Int32.toInt_inj, bI_T, nI_toInt (by omega)]
  by_cases h : x < 256
  · rw [if_pos h]; omega
  · rw [if_neg h]; omega
theorem bI_Nlt {x k : Nat} (hk : k < 256) : nI k < bI x ↔ (k < x ∧ x < 256) := by
  rw [Int32.lt_iff_toInt_lt, bI_T, nI_toInt (by omega)]
  by_cases h : x < 256
  · rw [if_pos h]; omega
  · rw [if_neg h]; omega
theorem bI_Nle {x k : Nat} (hk : k < 256) : nI k ≤ bI x ↔ (k ≤ x ∧ x < 256) := by
  rw [Int32.le_iff_toInt_le, bI_T, nI_toInt (by omega)]
  by_cases h : x < 256
  · rw [if_pos h]; omega
  · rw [if_neg h]; omega
theorem bI_eqB {x y : Nat} : bI x = bI y ↔ (x = y ∨ (256 ≤ x ∧ 256 ≤ y)) := by
  rw [← Int32.toInt_inj, bI_T, bI_T]
  by_cases h : x < 256 <;> by_cases g : y < 256
  · rw [if_pos h, if_pos g]; omega
  · rw [if_pos h, if_neg g]; omega
  · rw [if_neg h, if_pos g]; omega
  · rw [if_neg h, if_neg g]; omega
theorem nI_mask (m : Nat) {M P : Nat} (k : Nat) (hP : P = 2 ^ k) (hM : M + 1 = P) : nI m &&& nI M = nI (m % P) := by
  rw [nx_and, show M = 2 ^ k - 1 by omega, Nat.and_two_pow_sub_one_eq_mod, hP]
def oI (o : Option Nat) : Int32 := match o with
  | none => -1
  | some k => nI k
theorem oI_m1 {o : Option Nat} (h : ∀ k, o = some k → k < 2 ^ 31) : oI o = (-1) ↔ o = none := by
  cases o with
  | none => exact ⟨fun _ => rfl, fun _ => rfl⟩
  | some k =>
    refine ⟨fun q => ?_, fun q => by cases q⟩
    have h1 : (nI k).toInt = (-1 : Int32).toInt := by rw [show nI k = -1 from q]
    rw [nI_toInt (h k rfl)] at h1
    have h2 : (-1 : Int32).toInt = -1 := by decide
    omega
/-- the number of a long's bits -/
def tn (x : Int64) : Nat := x.toBitVec.toNat
theorem tn_lt (x : Int64) : tn x < 2 ^ 64 := x.toBitVec.isLt
theorem tn_lN (x : Int64) : lN (tn x) = x := wb_inj (by rw [wb_tb]; simp [tn])
theorem tn_of {n : Nat} (h : n < 2 ^ 64) : tn (lN n) = n := wb_tn h
/-- byte p of the packed text -/
def byt (T : Nat → Int64) (p : Nat) : Nat := tn (T (p / 8)) / 2 ^ (8 * (p % 8)) % 256
theorem byt_lt (T : Nat → Int64) (p : Nat) : byt T p < 256 := Nat.mod_lt _ (by decide)
/-- byteAt: 256 where there is none -/
def gb (T : Nat → Int64) (n p : Nat) : Nat := if p < n then byt T p else 256
theorem gb_lo {T : Nat → Int64} {n p : Nat} (h : p < n) : gb T n p = byt T p := if_pos h
theorem gb_hi {T : Nat → Int64} {n p : Nat} (h : n ≤ p) : gb T n p = 256 := if_neg (by omega)
theorem gb_in (T : Nat → Int64) (n p : Nat) : (gb T n p < 256 ∧ p < n) ∨ (gb T n p = 256 ∧ n ≤ p) := by
  by_cases h : p < n
  · left; rw [gb_lo h]; exact ⟨byt_lt T p, h⟩
  · right; exact ⟨gb_hi (by omega), by omega⟩
abbrev lmU : Type := (Nat → Nat) × (Nat → Int64) × (Nat → Int64)
abbrev lmF (a1 a2 : Nat) (Z : Nat → Nat) : List Value := [.ref a1, .ref a2, .int (nI (Z 2)), .int (nI (Z 3)), .int (nI (Z 4)), .int (nI (Z 5)), .int (nI (Z 6)), .int (nI (Z 7)), .int (nI (Z 8)), .int (nI (Z 9)), .int (nI (Z 10)), .int (nI (Z 11)), .int (nI (Z 12)), .int (nI (Z 13)), .int (nI (Z 14)), .int (nI (Z 15))]
abbrev lmW (cA : ClassId) (a0 a1 a2 : Nat) (u : lmU) : va_W := [(a0, .inr (0, lmF a1 a2 u.1)), (a1, .inl (cA, 4096, .inr (.inl u.2.1))), (a2, .inl (cA, 8000, .inr (.inl u.2.2)))]
/-- the world as a method that only reads has it -/
abbrev lmR (dC : Nat → ClassId) (dI : Nat → Nat → Nat) (cA : ClassId) (a0 a1 a2 : Nat) (u : lmU) (U : State) : Prop := va_P (dC, dI) vwCl (lmW cA a0 a1 a2 u) U.heap ∧ va_K (dC, dI) vwCl [(cA, .long)] U
/-- the world as a method that writes has it -/
abbrev lmB (dC : Nat → ClassId) (dI : Nat → Nat → Nat) (cA : ClassId) (a0 a1 a2 : Nat) (A : Nat → Prop) (u : lmU) (U : State) : Prop := va_P (dC, dI) vwCl (lmW cA a0 a1 a2 u) U.heap ∧ va_K (dC, dI) vwCl [(cA, .long)] U ∧ va_D A (lmW cA a0 a1 a2 u)
abbrev lmP (dC : Nat → ClassId) (dI : Nat → Nat → Nat) (cA : ClassId) (a0 a1 a2 sz : Nat) (u : lmU) (U : State) : Prop := U.heap.size = sz ∧ lmB dC dI cA a0 a1 a2 (fun _ => True) u U
section LMCALLS
variable {p : Program} {l : Launch} {e : Env} {R : Room} {s : State} {m : MethodId} {args : Array Value} {below : List Frame} {meth : Method} {c : Code} {H : Heap} {locs : List Loc} {cells slots : Nat} {Q : State → Prop}
variable {dC : Nat → ClassId} {dI : Nat → Nat → Nat} {cA : ClassId} {a0 a1 a2 : Nat} {u : lmU} {A : Nat → Prop} {H0 : Heap} {pc : Nat} {ls : Array Slot} {rest st0 : List Value} {a : Array Value}
theorem lm_preR {As : List Value} (hK : va_K (dC, dI) vwCl [(cA, .long)] s) (hP : va_P (dC, dI) vwCl (lmW cA a0 a1 a2 u) H) : PreV s H RX0 a0 (va_Pc (.ref a0 :: As) (lmR dC dI cA a0 a1 a2 u)) As :=
  ⟨fun a U g mk q => by obtain ⟨q0, qP, qK⟩ := q; exact ⟨q0, qP, va_K.moved (u := U) (U := U.calling g mk a) (Vm.Alike.refl U.vm) qK⟩, va_recv hK hP (ci := 0) (q0 := 0) rfl rfl, fun U hU hW => ⟨rfl, by rw [hU]; exact hP, va_K.moved hW.alike hK⟩⟩
theorem lm_preS {As : List Value} (hK : va_K (dC, dI) vwCl [(cA, .long)] s) (hP : va_P (dC, dI) vwCl (lmW cA a0 a1 a2 u) H) (hD : va_D A (lmW cA a0 a1 a2 u)) : PreV s H RX0 a0 (va_Pc (.ref a0 :: As) (lmP dC dI cA a0 a1 a2 H.size u)) As :=
  ⟨fun a U g mk q => by obtain ⟨q0, q1, qP, qK, qD⟩ := q; exact ⟨q0, q1, qP, va_K.moved (u := U) (U := U.calling g mk a) (Vm.Alike.refl U.vm) qK, qD⟩, va_recv hK hP (ci := 0) (q0 := 0) rfl rfl, fun U hU hW => ⟨rfl, by rw [hU], by rw [hU]; exact hP, va_K.moved hW.alike hK, hD.weaken (fun _ _ _ _ => trivial)⟩⟩
theorem st_pre {As : List Value} : PreS s H (va_Pc As (fun _ => True)) As :=
  ⟨fun a U g mk q => q, fun U _ _ => ⟨rfl, trivial⟩⟩
theorem lm_calli {post : Int32 → lmU → Prop} (hr : va_Run p l e R s m args below meth c H locs cells slots 0 0 (F0 m pc ls st0) rest (va_Qi post (lmB dC dI cA a0 a1 a2 (va_A (lmW cA a0 a1 a2 u) H.size)) (va_A (lmW cA a0 a1 a2 u) H.size) a) (va_A (lmW cA a0 a1 a2 u) H.size)) (hD : va_D A (lmW cA a0 a1 a2 u)) (hS : va_S A H0 H locs) (hA : ∀ q, H0.size ≤ q → A q)
    (kk : ∀ (r : Int32) (u1 : lmU) (H1 : Heap) (locs1 : List Loc), post r u1 → va_P (dC, dI) vwCl (lmW cA a0 a1 a2 u1) H1 → va_D A (lmW cA a0 a1 a2 u1) → va_S A H0 H1 locs1 → W p l e R s m args below meth c H1 locs1 cells slots Q (F0 m (pc + 3) ls (.int r :: rest))) : W p l e R s m args below meth c H locs cells slots Q (F0 m pc ls st0) := by
  have hFc := va_free (wc := lmW cA a0 a1 a2 u) hD hS hA [0, 1, 2] rfl
  refine va_calli hr hS (fun q _ h => hFc q h) hFc (fun r u1 t H1 locs1 ht hvm hp hB hz1 hk1 hS1 => ?_)
  obtain ⟨hP1, hK1, hD1⟩ := hB
  rw [ht] at hP1
  exact kk r u1 H1 locs1 hp hP1 (hD1.weaken (fun _ q _ h => hFc q.1 h)) hS1
theorem lm_callv {post : lmU → Prop} (hr : va_Run p l e R s m args below meth c H locs cells slots 0 0 (F0 m pc ls st0) rest (va_Qv post (lmB dC dI cA a0 a1 a2 (va_A (lmW cA a0 a1 a2 u) H.size)) (va_A (lmW cA a0 a1 a2 u) H.size) a) (va_A (lmW cA a0 a1 a2 u) H.size)) (hD : va_D A (lmW cA a0 a1 a2 u)) (hS : va_S A H0 H locs) (hA : ∀ q, H0.size ≤ q → A q)
    (kk : ∀ (u1 : lmU) (H1 : Heap) (locs1 : List Loc), post u1 → va_P (dC, dI) vwCl (lmW cA a0 a1 a2 u1) H1 → va_D A (lmW cA a0 a1 a2 u1) → va_S A H0 H1 locs1 → W p l e R s m args below meth c H1 locs1 cells slots Q (F0 m (pc + 3) ls rest)) : W p l e R s m args below meth c H locs cells slots Q (F0 m pc ls st0) := by
  have hFc := va_free (wc := lmW cA a0 a1 a2 u) hD hS hA [0, 1, 2] rfl
  refine va_callv hr hS (fun q _ h => hFc q h) hFc (fun u1 t H1 locs1 ht hvm hp hB hz1 hk1 hS1 => ?_)
  obtain ⟨hP1, hK1, hD1⟩ := hB
  rw [ht] at hP1
  exact kk u1 H1 locs1 hp hP1 (hD1.weaken (fun _ q _ h => hFc q.1 h)) hS1
end LMCALLS
end
section
/-! what LineMill's private methods compute, in numbers: T the packed text, n its length, places q -/
def isL (x : Nat) : Bool := (decide (65 ≤ x) && decide (x ≤ 90)) || (decide (97 ≤ x) && decide (x ≤ 122)) || decide (x = 95)
def isD (x : Nat) : Bool := decide (48 ≤ x) && decide (x ≤ 57)
def isB (x : Nat) : Bool := decide (x = 32) || decide (x = 9) || (decide (11 ≤ x) && decide (x ≤ 13))
def isQ (x : Nat) : Bool := decide (x = 34) || decide (x = 39)
def kdQ (y : Nat) : Nat := if y = 34 then 3 else 4
def goN (x y : Nat) : Bool := if x = 43 ∨ x = 45 then decide (y = 101) || decide (y = 69) || decide (y = 112) || decide (y = 80) else isD x || isL x || decide (x = 46)
/-- the first place from q on that splicing leaves -/
def lf (T : Nat → Int64) (n q : Nat) : Nat := if q + 1 < n ∧ gb T n q = 92 ∧ gb T n (q + 1) = 10 then lf T n (q + 2) else q
termination_by n - q
theorem lf_ge (T : Nat → Int64) (n : Nat) : ∀ (k q : Nat), n ≤ q + k → q ≤ lf T n q ∧ (lf T n q ≤ q ∨ lf T n q ≤ n) := by
  intro k
  induction k with
  | zero =>
    intro q h
    rw [lf, if_neg (by omega)]
    exact ⟨Nat.le_refl _, Or.inl (Nat.le_refl _)⟩
  | succ k ih =>
    intro q h
    rw [lf]
    by_cases c : q + 1 < n ∧ gb T n q = 92 ∧ gb T n (q + 1) = 10
    · rw [if_pos c]
      have := ih (q + 2) (by omega)
      omega
    · rw [if_neg c]
      exact ⟨Nat.le_refl _, Or.inl (Nat.le_refl _)⟩
theorem lf_b (T : Nat → Int64) (n q : Nat) : q ≤ lf T n q ∧ (lf T n q ≤ q ∨ lf T n q ≤ n) := lf_ge T n n q (by omega)
/-- pass: from place a, line li, c bytes passed, on to stop -/
def pss (T : Nat → Int64) (n stop a li c : Nat) : Nat × Nat × Nat :=
  if a < stop then
    if lf T n a < stop then pss T n stop (lf T n a + 1) (li + (lf T n a - a) / 2 + (if gb T n (lf T n a) = 10 then 1 else 0)) (c + 1)
    else (lf T n a, li + (lf T n a - a) / 2, c)
  else (a, li, c)
termination_by stop - a
decreasing_by have := lf_b T n a; omega
/-- commentEnd from q on, star: the byte before was a * -/
def cmE (T : Nat → Int64) (n q : Nat) (star : Bool) : Option Nat :=
  if q < n then
    if star = true ∧ gb T n q = 47 then some (lf T n (q + 1))
    else cmE T n (lf T n (q + 1)) (decide (gb T n q = 42))
  else none
termination_by n - q
decreasing_by have := lf_b T n (q + 1); omega
def lnE (T : Nat → Int64) (n q : Nat) : Nat := if q < n ∧ gb T n q ≠ 10 then lnE T n (lf T n (q + 1)) else q
termination_by n - q
decreasing_by have := lf_b T n (q + 1); omega
def nmE (T : Nat → Int64) (n q : Nat) : Nat := if q < n ∧ (isL (gb T n q) = true ∨ isD (gb T n q) = true) then nmE T n (lf T n (q + 1)) else q
termination_by n - q
decreasing_by have := lf_b T n (q + 1); omega
def nuE (T : Nat → Int64) (n q last : Nat) : Nat := if q < n ∧ goN (gb T n q) last = true then nuE T n (lf T n (q + 1)) (gb T n q) else q
termination_by n - q
decreasing_by have := lf_b T n (q + 1); omega
/-- quoteEnd's search: the place behind the end, and true; or where the line ends, and false -/
def qtE (T : Nat → Int64) (n quote q : Nat) : Nat × Bool :=
  if q < n ∧ gb T n q ≠ 10 then
    if gb T n q = quote then (lf T n (q + 1), true)
    else if gb T n q = 92 ∧ lf T n (q + 1) < n ∧ gb T n (lf T n (q + 1)) ≠ 10 then qtE T n quote (lf T n (lf T n (q + 1) + 1))
    else qtE T n quote (lf T n (q + 1))
  else (q, false)
termination_by n - q
decreasing_by
  · have := lf_b T n (q + 1); have := lf_b T n (lf T n (q + 1) + 1); omega
  · have := lf_b T n (q + 1); omega
theorem lnE_g (T : Nat → Int64) (n : Nat) : ∀ (k q : Nat), n ≤ q + k → q ≤ lnE T n q ∧ (lnE T n q ≤ q ∨ lnE T n q ≤ n) := by
  intro k
  induction k with
  | zero =>
    intro q h
    rw [lnE, if_neg (fun z => by have := z.1; omega)]
    exact ⟨Nat.le_refl _, Or.inl (Nat.le_refl _)⟩
  | succ k ih =>
    intro q h
    rw [lnE]
    by_cases c : q < n ∧ gb T n q ≠ 10
    · rw [if_pos c]
      have h1 := lf_b T n (q + 1)
      have h2 := ih (lf T n (q + 1)) (by omega)
      have h3 := c.1
      omega
    · rw [if_neg c]
      exact ⟨Nat.le_refl _, Or.inl (Nat.le_refl _)⟩
theorem lnE_b (T : Nat → Int64) (n q : Nat) : q ≤ lnE T n q ∧ (lnE T n q ≤ q ∨ lnE T n q ≤ n) := lnE_g T n n q (by omega)
theorem nmE_g (T : Nat → Int64) (n : Nat) : ∀ (k q : Nat), n ≤ q + k → q ≤ nmE T n q ∧ (nmE T n q ≤ q ∨ nmE T n q ≤ n) := by
  intro k
  induction k with
  | zero =>
    intro q h
    rw [nmE, if_neg (fun z => by have := z.1; omega)]
    exact ⟨Nat.le_refl _, Or.inl (Nat.le_refl _)⟩
  | succ k ih =>
    intro q h
    rw [nmE]
    by_cases c : q < n ∧ (isL (gb T n q) = true ∨ isD (gb T n q) = true)
    · rw [if_pos c]
      have h1 := lf_b T n (q + 1)
      have h2 := ih (lf T n (q + 1)) (by omega)
      have h3 := c.1
      omega
    · rw [if_neg c]
      exact ⟨Nat.le_refl _, Or.inl (Nat.le_refl _)⟩
theorem nmE_b (T : Nat → Int64) (n q : Nat) : q ≤ nmE T n q ∧ (nmE T n q ≤ q ∨ nmE T n q ≤ n) := nmE_g T n n q (by omega)
theorem nuE_g (T : Nat → Int64) (n : Nat) : ∀ (k q y : Nat), n ≤ q + k → q ≤ nuE T n q y ∧ (nuE T n q y ≤ q ∨ nuE T n q y ≤ n) := by
  intro k
  induction k with
  | zero =>
    intro q y h
    rw [nuE, if_neg (fun z => by have := z.1; omega)]
    exact ⟨Nat.le_refl _, Or.inl (Nat.le_refl _)⟩
  | succ k ih =>
    intro q y h
    rw [nuE]
    by_cases c : q < n ∧ goN (gb T n q) y = true
    · rw [if_pos c]
      have h1 := lf_b T n (q + 1)
      have h2 := ih (lf T n (q + 1)) (gb T n q) (by omega)
      have h3 := c.1
      omega
    · rw [if_neg c]
      exact ⟨Nat.le_refl _, Or.inl (Nat.le_refl _)⟩
theorem nuE_b (T : Nat → Int64) (n q y : Nat) : q ≤ nuE T n q y ∧ (nuE T n q y ≤ q ∨ nuE T n q y ≤ n) := nuE_g T n n q y (by omega)
theorem cmE_g (T : Nat → Int64) (n : Nat) : ∀ (k q : Nat) (b : Bool) (x : Nat), n ≤ q + k → cmE T n q b = some x → q < x ∧ x ≤ n := by
  intro k
  induction k with
  | zero =>
    intro q b x h e
    rw [cmE, if_neg (by omega)] at e
    cases e
  | succ k ih =>
    intro q b x h e
    rw [cmE] at e
    by_cases c : q < n
    · rw [if_pos c] at e
      have h1 := lf_b T n (q + 1)
      by_cases d : b = true ∧ gb T n q = 47
      · rw [if_pos d] at e
        cases e
        omega
      · rw [if_neg d] at e
        have h2 := ih (lf T n (q + 1)) _ x (by omega) e
        omega
    · rw [if_neg c] at e
      cases e
theorem cmE_b {T : Nat → Int64} {n q : Nat} {b : Bool} {x : Nat} (h : cmE T n q b = some x) : q < x ∧ x ≤ n := cmE_g T n n q b x (by omega) h
theorem pss_g (T : Nat → Int64) (n stop : Nat) : ∀ (k a li c : Nat), stop ≤ a + k → a ≤ (pss T n stop a li c).1 ∧ stop ≤ (pss T n stop a li c).1 ∧ ((pss T n stop a li c).1 ≤ a ∨ (pss T n stop a li c).1 ≤ stop ∨ (pss T n stop a li c).1 ≤ n) ∧ li ≤ (pss T n stop a li c).2.1 ∧ (pss T n stop a li c).2.1 + a ≤ li + (pss T n stop a li c).1 ∧ c ≤ (pss T n stop a li c).2.2 ∧ (pss T n stop a li c).2.2 + a ≤ c + (pss T n stop a li c).1 := by
  intro k
  induction k with
  | zero =>
    intro a li c h
    rw [pss, if_neg (by omega)]
    refine ⟨?_, ?_, ?_, ?_, ?_, ?_, ?_⟩ <;> dsimp only <;> omega
  | succ k ih =>
    intro a li c h
    have h1 := lf_b T n a
    rw [pss]
    by_cases d : a < stop
    · rw [if_pos d]
      by_cases g : lf T n a < stop
      · rw [if_pos g]
        by_cases z : gb T n (lf T n a) = 10
        · rw [if_pos z]
          have h2 := ih (lf T n a + 1) (li + (lf T n a - a) / 2 + 1) (c + 1) (by omega)
          omega
        · rw [if_neg z]
          have h2 := ih (lf T n a + 1) (li + (lf T n a - a) / 2 + 0) (c + 1) (by omega)
          omega
      · rw [if_neg g]
        refine ⟨?_, ?_, ?_, ?_, ?_, ?_, ?_⟩ <;> dsimp only <;> omega
    · rw [if_neg d]
      refine ⟨?_, ?_, ?_, ?_, ?_, ?_, ?_⟩ <;> dsimp only <;> omega
/-- pass: bounds of place, line, count -/
theorem pss_b {T : Nat → Int64} {n stop a li c x y z : Nat} (h : pss T n stop a li c = (x, y, z)) : a ≤ x ∧ stop ≤ x ∧ (x ≤ a ∨ x ≤ stop ∨ x ≤ n) ∧ li ≤ y ∧ y + a ≤ li + x ∧ c ≤ z ∧ z + a ≤ c + x := by
  have g := pss_g T n stop stop a li c (by omega)
  rw [h] at g
  exact g
theorem qtE_g (T : Nat → Int64) (n quote : Nat) : ∀ (k q : Nat), n ≤ q + k → q ≤ (qtE T n quote q).1 ∧ ((qtE T n quote q).1 ≤ q ∨ (qtE T n quote q).1 ≤ n) := by
  intro k
  induction k with
  | zero =>
    intro q h
    rw [qtE, if_neg (fun z => by have := z.1; omega)]
    exact ⟨Nat.le_refl _, Or.inl (Nat.le_refl _)⟩
  | succ k ih =>
    intro q h
    have h1 := lf_b T n (q + 1)
    rw [qtE]
    by_cases c : q < n ∧ gb T n q ≠ 10
    · have h3 := c.1
      rw [if_pos c]
      by_cases d : gb T n q = quote
      · rw [if_pos d]
        dsimp only
        omega
      · rw [if_neg d]
        by_cases g : gb T n q = 92 ∧ lf T n (q + 1) < n ∧ gb T n (lf T n (q + 1)) ≠ 10
        · rw [if_pos g]
          have h4 := lf_b T n (lf T n (q + 1) + 1)
          have h5 := g.2.1
          have h2 := ih (lf T n (lf T n (q + 1) + 1)) (by omega)
          omega
        · rw [if_neg g]
          have h2 := ih (lf T n (q + 1)) (by omega)
          omega
    · rw [if_neg c]
      exact ⟨Nat.le_refl _, Or.inl (Nat.le_refl _)⟩
theorem qtE_b (T : Nat → Int64) (n quote q : Nat) : q ≤ (qtE T n quote q).1 ∧ ((qtE T n quote q).1 ≤ q ∨ (qtE T n quote q).1 ≤ n) := qtE_g T n quote n q (by omega)
end
section
theorem isL_t {x : Nat} (h : (65 ≤ x ∧ x ≤ 90) ∨ (97 ≤ x ∧ x ≤ 122) ∨ x = 95) : isL x = true := by simp [isL]; omega
theorem isL_f {x : Nat} (h : ¬ ((65 ≤ x ∧ x ≤ 90) ∨ (97 ≤ x ∧ x ≤ 122) ∨ x = 95)) : isL x = false := by
  cases q : isL x with
  | false => rfl
  | true => simp [isL] at q; omega
theorem isD_t {x : Nat} (h : 48 ≤ x ∧ x ≤ 57) : isD x = true := by simp [isD]; omega
theorem isD_f {x : Nat} (h : ¬ (48 ≤ x ∧ x ≤ 57)) : isD x = false := by
  cases q : isD x with
  | false => rfl
  | true => simp [isD] at q; omega
theorem isB_t {x : Nat} (h : x = 32 ∨ x = 9 ∨ (11 ≤ x ∧ x ≤ 13)) : isB x = true := by simp [isB]; omega
theorem isB_f {x : Nat} (h : ¬ (x = 32 ∨ x = 9 ∨ (11 ≤ x ∧ x ≤ 13))) : isB x = false := by
  cases q : isB x with
  | false => rfl
  | true => simp [isB] at q; omega
theorem isQ_t {x : Nat} (h : x = 34 ∨ x = 39) : isQ x = true := by simp [isQ]; omega
theorem isQ_f {x : Nat} (h : ¬ (x = 34 ∨ x = 39)) : isQ x = false := by
  cases q : isQ x with
  | false => rfl
  | true => simp [isQ] at q; omega
set_option maxHeartbeats 4000000 in
set_option maxRecDepth 100000 in
theorem c_isLetter (l : Launch) (x : Nat) : Met l yX0_isLetter wX0_isLetter ({ frames := 0, cells := 0, slots := 0, locals := 0 }) (va_Pc [.int (bI x)] (fun _ => True)) (vp_Si (fun r => r = b2i (isL x))) 0 0 (fun _ => False) := by
  refine Met.ofW (cc := cX0_isLetter) (maxL := 1) (ret := (some .boolean)) (by decide) rfl ?_
  intro p e s m args below meth c s₁ B hml hv
  obtain ⟨rfl, -⟩ := hv
  have hx := B.exec
  have hb := B.bytes
  have hr := B.returns
  have hts : ∀ w ∈ bw, w.before _ s = true := fun w h => atoms_spec (ws := wX0_isLetter) B.pre w (bc w h)
  have hown : s.vm.findClass RX0 = some m.cls := findClass_of_methodNamed B.named
  have hlocks := B.notSynchronized
  have hl := lv_entry ([.int (bI x)]) (n := 1) (Nat.le_of_ble_eq_true rfl)
  rw [lg_entry_eq]
  generalize (lg_sl ([.int (bI x)]) ++ List.replicate (1 - (lg_sl ([.int (bI x)])).length) Slot.unset).toArray = ls at hl ⊢
  have hl : lv_has ls 1 [(0, .int (bI x))] := hl
  refine lv_iload_n hx hb dX0_isLetter_0 rfl (lv_at hl 0 rfl) ?_
  refine lv_bipush (v := nI 65) hx hb dX0_isLetter_1 (by decide) ?_
  refine lv_icmp_lt (tgt := 12) hx hb dX0_isLetter_3 (by decide) (fun c_1 => ?_) (fun c_1 => ?_)
  · have c_1 := (bI_ltN (by omega)).mp c_1
    refine lv_iload_n hx hb dX0_isLetter_12 rfl (lv_at hl 0 rfl) ?_
    refine lv_bipush (v := nI 97) hx hb dX0_isLetter_13 (by decide) ?_
    refine lv_icmp_lt (tgt := 24) hx hb dX0_isLetter_15 (by decide) (fun c_2 => ?_) (fun c_2 => ?_)
    · have c_2 := (bI_ltN (by omega)).mp c_2
      refine lv_iload_n hx hb dX0_isLetter_24 rfl (lv_at hl 0 rfl) ?_
      refine lv_bipush (v := nI 95) hx hb dX0_isLetter_25 (by decide) ?_
      refine lv_icmp_ne (tgt := 34) hx hb dX0_isLetter_27 (by decide) (fun c_3 => ?_) (fun c_3 => ?_)
      · have c_3 := mt (bI_eqN (by omega)).mpr c_3
        refine lv_iconst (v := nI 0) hx hb dX0_isLetter_34 (by decide) ?_
        exact W.zret (v := nI 0) hx hb hr rfl (fun t ht hW => ⟨_, rfl, (by rw [isL_f (by omega)]; rfl), ht⟩) (fun q h => by cases h) dX0_isLetter_35
      · have c_3 := (bI_eqN (by omega)).mp c_3
        refine lv_iconst (v := nI 1) hx hb dX0_isLetter_30 (by decide) ?_
        refine lv_goto (tgt := 35) hx hb dX0_isLetter_31 (by decide) ?_
        exact W.zret (v := nI 1) hx hb hr rfl (fun t ht hW => ⟨_, rfl, (by rw [isL_t (by omega)]; rfl), ht⟩) (fun q h => by cases h) dX0_isLetter_35
    · have c_2 := mt (bI_ltN (by omega)).mpr c_2
      refine lv_iload_n hx hb dX0_isLetter_18 rfl (lv_at hl 0 rfl) ?_
      refine lv_bipush (v := nI 122) hx hb dX0_isLetter_19 (by decide) ?_
      refine lv_icmp_le (tgt := 30) hx hb dX0_isLetter_21 (by decide) (fun c_4 => ?_) (fun c_4 => ?_)
      · have c_4 := (bI_leN (by omega)).mp c_4
        refine lv_iconst (v := nI 1) hx hb dX0_isLetter_30 (by decide) ?_
        refine lv_goto (tgt := 35) hx hb dX0_isLetter_31 (by decide) ?_
        exact W.zret (v := nI 1) hx hb hr rfl (fun t ht hW => ⟨_, rfl, (by rw [isL_t (by omega)]; rfl), ht⟩) (fun q h => by cases h) dX0_isLetter_35
      · have c_4 := mt (bI_leN (by omega)).mpr c_4
        refine lv_iload_n hx hb dX0_isLetter_24 rfl (lv_at hl 0 rfl) ?_
        refine lv_bipush (v := nI 95) hx hb dX0_isLetter_25 (by decide) ?_
        refine lv_icmp_ne (tgt := 34) hx hb dX0_isLetter_27 (by decide) (fun c_5 => ?_) (fun c_5 => ?_)
        · have c_5 := mt (bI_eqN (by omega)).mpr c_5
          refine lv_iconst (v := nI 0) hx hb dX0_isLetter_34 (by decide) ?_
          exact W.zret (v := nI 0) hx hb hr rfl (fun t ht hW => ⟨_, rfl, (by rw [isL_f (by omega)]; rfl), ht⟩) (fun q h => by cases h) dX0_isLetter_35
        · have c_5 := (bI_eqN (by omega)).mp c_5
          refine lv_iconst (v := nI 1) hx hb dX0_isLetter_30 (by decide) ?_
          refine lv_goto (tgt := 35) hx hb dX0_isLetter_31 (by decide) ?_
          exact W.zret (v := nI 1) hx hb hr rfl (fun t ht hW => ⟨_, rfl, (by rw [isL_t (by omega)]; rfl), ht⟩) (fun q h => by cases h) dX0_isLetter_35
  · have c_1 := mt (bI_ltN (by omega)).mpr c_1
    refine lv_iload_n hx hb dX0_isLetter_6 rfl (lv_at hl 0 rfl) ?_
    refine lv_bipush (v := nI 90) hx hb dX0_isLetter_7 (by decide) ?_
    refine lv_icmp_le (tgt := 30) hx hb dX0_isLetter_9 (by decide) (fun c_6 => ?_) (fun c_6 => ?_)
    · have c_6 := (bI_leN (by omega)).mp c_6
      refine lv_iconst (v := nI 1) hx hb dX0_isLetter_30 (by decide) ?_
      refine lv_goto (tgt := 35) hx hb dX0_isLetter_31 (by decide) ?_
      exact W.zret (v := nI 1) hx hb hr rfl (fun t ht hW => ⟨_, rfl, (by rw [isL_t (by omega)]; rfl), ht⟩) (fun q h => by cases h) dX0_isLetter_35
    · have c_6 := mt (bI_leN (by omega)).mpr c_6
      refine lv_iload_n hx hb dX0_isLetter_12 rfl (lv_at hl 0 rfl) ?_
      refine lv_bipush (v := nI 97) hx hb dX0_isLetter_13 (by decide) ?_
      refine lv_icmp_lt (tgt := 24) hx hb dX0_isLetter_15 (by decide) (fun c_7 => ?_) (fun c_7 => ?_)
      · have c_7 := (bI_ltN (by omega)).mp c_7
        refine lv_iload_n hx hb dX0_isLetter_24 rfl (lv_at hl 0 rfl) ?_
        refine lv_bipush (v := nI 95) hx hb dX0_isLetter_25 (by decide) ?_
        refine lv_icmp_ne (tgt := 34) hx hb dX0_isLetter_27 (by decide) (fun c_8 => ?_) (fun c_8 => ?_)
        · have c_8 := mt (bI_eqN (by omega)).mpr c_8
          refine lv_iconst (v := nI 0) hx hb dX0_isLetter_34 (by decide) ?_
          exact W.zret (v := nI 0) hx hb hr rfl (fun t ht hW => ⟨_, rfl, (by rw [isL_f (by omega)]; rfl), ht⟩) (fun q h => by cases h) dX0_isLetter_35
        · have c_8 := (bI_eqN (by omega)).mp c_8
          refine lv_iconst (v := nI 1) hx hb dX0_isLetter_30 (by decide) ?_
          refine lv_goto (tgt := 35) hx hb dX0_isLetter_31 (by decide) ?_
          exact W.zret (v := nI 1) hx hb hr rfl (fun t ht hW => ⟨_, rfl, (by rw [isL_t (by omega)]; rfl), ht⟩) (fun q h => by cases h) dX0_isLetter_35
      · have c_7 := mt (bI_ltN (by omega)).mpr c_7
        refine lv_iload_n hx hb dX0_isLetter_18 rfl (lv_at hl 0 rfl) ?_
        refine lv_bipush (v := nI 122) hx hb dX0_isLetter_19 (by decide) ?_
        refine lv_icmp_le (tgt := 30) hx hb dX0_isLetter_21 (by decide) (fun c_9 => ?_) (fun c_9 => ?_)
        · have c_9 := (bI_leN (by omega)).mp c_9
          refine lv_iconst (v := nI 1) hx hb dX0_isLetter_30 (by decide) ?_
          refine lv_goto (tgt := 35) hx hb dX0_isLetter_31 (by decide) ?_
          exact W.zret (v := nI 1) hx hb hr rfl (fun t ht hW => ⟨_, rfl, (by rw [isL_t (by omega)]; rfl), ht⟩) (fun q h => by cases h) dX0_isLetter_35
        · have c_9 := mt (bI_leN (by omega)).mpr c_9
          refine lv_iload_n hx hb dX0_isLetter_24 rfl (lv_at hl 0 rfl) ?_
          refine lv_bipush (v := nI 95) hx hb dX0_isLetter_25 (by decide) ?_
          refine lv_icmp_ne (tgt := 34) hx hb dX0_isLetter_27 (by decide) (fun c_10 => ?_) (fun c_10 => ?_)
          · have c_10 := mt (bI_eqN (by omega)).mpr c_10
            refine lv_iconst (v := nI 0) hx hb dX0_isLetter_34 (by decide) ?_
            exact W.zret (v := nI 0) hx hb hr rfl (fun t ht hW => ⟨_, rfl, (by rw [isL_f (by omega)]; rfl), ht⟩) (fun q h => by cases h) dX0_isLetter_35
          · have c_10 := (bI_eqN (by omega)).mp c_10
            refine lv_iconst (v := nI 1) hx hb dX0_isLetter_30 (by decide) ?_
            refine lv_goto (tgt := 35) hx hb dX0_isLetter_31 (by decide) ?_
            exact W.zret (v := nI 1) hx hb hr rfl (fun t ht hW => ⟨_, rfl, (by rw [isL_t (by omega)]; rfl), ht⟩) (fun q h => by cases h) dX0_isLetter_35
set_option maxHeartbeats 4000000 in
set_option maxRecDepth 100000 in
theorem c_isDigit (l : Launch) (x : Nat) : Met l yX0_isDigit wX0_isDigit ({ frames := 0, cells := 0, slots := 0, locals := 0 }) (va_Pc [.int (bI x)] (fun _ => True)) (vp_Si (fun r => r = b2i (isD x))) 0 0 (fun _ => False) := by
  refine Met.ofW (cc := cX0_isDigit) (maxL := 1) (ret := (some .boolean)) (by decide) rfl ?_
  intro p e s m args below meth c s₁ B hml hv
  obtain ⟨rfl, -⟩ := hv
  have hx := B.exec
  have hb := B.bytes
  have hr := B.returns
  have hts : ∀ w ∈ bw, w.before _ s = true := fun w h => atoms_spec (ws := wX0_isDigit) B.pre w (bc w h)
  have hown : s.vm.findClass RX0 = some m.cls := findClass_of_methodNamed B.named
  have hlocks := B.notSynchronized
  have hl := lv_entry ([.int (bI x)]) (n := 1) (Nat.le_of_ble_eq_true rfl)
  rw [lg_entry_eq]
  generalize (lg_sl ([.int (bI x)]) ++ List.replicate (1 - (lg_sl ([.int (bI x)])).length) Slot.unset).toArray = ls at hl ⊢
  have hl : lv_has ls 1 [(0, .int (bI x))] := hl
  refine lv_iload_n hx hb dX0_isDigit_0 rfl (lv_at hl 0 rfl) ?_
  refine lv_bipush (v := nI 48) hx hb dX0_isDigit_1 (by decide) ?_
  refine lv_icmp_lt (tgt := 16) hx hb dX0_isDigit_3 (by decide) (fun c_1 => ?_) (fun c_1 => ?_)
  · have c_1 := (bI_ltN (by omega)).mp c_1
    refine lv_iconst (v := nI 0) hx hb dX0_isDigit_16 (by decide) ?_
    exact W.zret (v := nI 0) hx hb hr rfl (fun t ht hW => ⟨_, rfl, (by rw [isD_f (by omega)]; rfl), ht⟩) (fun q h => by cases h) dX0_isDigit_17
  · have c_1 := mt (bI_ltN (by omega)).mpr c_1
    refine lv_iload_n hx hb dX0_isDigit_6 rfl (lv_at hl 0 rfl) ?_
    refine lv_bipush (v := nI 57) hx hb dX0_isDigit_7 (by decide) ?_
    refine lv_icmp_gt (tgt := 16) hx hb dX0_isDigit_9 (by decide) (fun c_2 => ?_) (fun c_2 => ?_)
    · have c_2 := (bI_Nlt (by omega)).mp c_2
      refine lv_iconst (v := nI 0) hx hb dX0_isDigit_16 (by decide) ?_
      exact W.zret (v := nI 0) hx hb hr rfl (fun t ht hW => ⟨_, rfl, (by rw [isD_f (by omega)]; rfl), ht⟩) (fun q h => by cases h) dX0_isDigit_17
    · have c_2 := mt (bI_Nlt (by omega)).mpr c_2
      refine lv_iconst (v := nI 1) hx hb dX0_isDigit_12 (by decide) ?_
      refine lv_goto (tgt := 17) hx hb dX0_isDigit_13 (by decide) ?_
      exact W.zret (v := nI 1) hx hb hr rfl (fun t ht hW => ⟨_, rfl, (by rw [isD_t (by omega)]; rfl), ht⟩) (fun q h => by cases h) dX0_isDigit_17
set_option maxHeartbeats 4000000 in
set_option maxRecDepth 100000 in
theorem c_isBlank (l : Launch) (x : Nat) : Met l yX0_isBlank wX0_isBlank ({ frames := 0, cells := 0, slots := 0, locals := 0 }) (va_Pc [.int (bI x)] (fun _ => True)) (vp_Si (fun r => r = b2i (isB x))) 0 0 (fun _ => False) := by
  refine Met.ofW (cc := cX0_isBlank) (maxL := 1) (ret := (some .boolean)) (by decide) rfl ?_
  intro p e s m args below meth c s₁ B hml hv
  obtain ⟨rfl, -⟩ := hv
  have hx := B.exec
  have hb := B.bytes
  have hr := B.returns
  have hts : ∀ w ∈ bw, w.before _ s = true := fun w h => atoms_spec (ws := wX0_isBlank) B.pre w (bc w h)
  have hown : s.vm.findClass RX0 = some m.cls := findClass_of_methodNamed B.named
  have hlocks := B.notSynchronized
  have hl := lv_entry ([.int (bI x)]) (n := 1) (Nat.le_of_ble_eq_true rfl)
  rw [lg_entry_eq]
  generalize (lg_sl ([.int (bI x)]) ++ List.replicate (1 - (lg_sl ([.int (bI x)])).length) Slot.unset).toArray = ls at hl ⊢
  have hl : lv_has ls 1 [(0, .int (bI x))] := hl
  refine lv_iload_n hx hb dX0_isBlank_0 rfl (lv_at hl 0 rfl) ?_
  refine lv_bipush (v := nI 32) hx hb dX0_isBlank_1 (by decide) ?_
  refine lv_icmp_eq (tgt := 24) hx hb dX0_isBlank_3 (by decide) (fun c_1 => ?_) (fun c_1 => ?_)
  · have c_1 := (bI_eqN (by omega)).mp c_1
    refine lv_iconst (v := nI 1) hx hb dX0_isBlank_24 (by decide) ?_
    refine lv_goto (tgt := 29) hx hb dX0_isBlank_25 (by decide) ?_
    exact W.zret (v := nI 1) hx hb hr rfl (fun t ht hW => ⟨_, rfl, (by rw [isB_t (by omega)]; rfl), ht⟩) (fun q h => by cases h) dX0_isBlank_29
  · have c_1 := mt (bI_eqN (by omega)).mpr c_1
    refine lv_iload_n hx hb dX0_isBlank_6 rfl (lv_at hl 0 rfl) ?_
    refine lv_bipush (v := nI 9) hx hb dX0_isBlank_7 (by decide) ?_
    refine lv_icmp_eq (tgt := 24) hx hb dX0_isBlank_9 (by decide) (fun c_2 => ?_) (fun c_2 => ?_)
    · have c_2 := (bI_eqN (by omega)).mp c_2
      refine lv_iconst (v := nI 1) hx hb dX0_isBlank_24 (by decide) ?_
      refine lv_goto (tgt := 29) hx hb dX0_isBlank_25 (by decide) ?_
      exact W.zret (v := nI 1) hx hb hr rfl (fun t ht hW => ⟨_, rfl, (by rw [isB_t (by omega)]; rfl), ht⟩) (fun q h => by cases h) dX0_isBlank_29
    · have c_2 := mt (bI_eqN (by omega)).mpr c_2
      refine lv_iload_n hx hb dX0_isBlank_12 rfl (lv_at hl 0 rfl) ?_
      refine lv_bipush (v := nI 11) hx hb dX0_isBlank_13 (by decide) ?_
      refine lv_icmp_lt (tgt := 28) hx hb dX0_isBlank_15 (by decide) (fun c_3 => ?_) (fun c_3 => ?_)
      · have c_3 := (bI_ltN (by omega)).mp c_3
        refine lv_iconst (v := nI 0) hx hb dX0_isBlank_28 (by decide) ?_
        exact W.zret (v := nI 0) hx hb hr rfl (fun t ht hW => ⟨_, rfl, (by rw [isB_f (by omega)]; rfl), ht⟩) (fun q h => by cases h) dX0_isBlank_29
      · have c_3 := mt (bI_ltN (by omega)).mpr c_3
        refine lv_iload_n hx hb dX0_isBlank_18 rfl (lv_at hl 0 rfl) ?_
        refine lv_bipush (v := nI 13) hx hb dX0_isBlank_19 (by decide) ?_
        refine lv_icmp_gt (tgt := 28) hx hb dX0_isBlank_21 (by decide) (fun c_4 => ?_) (fun c_4 => ?_)
        · have c_4 := (bI_Nlt (by omega)).mp c_4
          refine lv_iconst (v := nI 0) hx hb dX0_isBlank_28 (by decide) ?_
          exact W.zret (v := nI 0) hx hb hr rfl (fun t ht hW => ⟨_, rfl, (by rw [isB_f (by omega)]; rfl), ht⟩) (fun q h => by cases h) dX0_isBlank_29
        · have c_4 := mt (bI_Nlt (by omega)).mpr c_4
          refine lv_iconst (v := nI 1) hx hb dX0_isBlank_24 (by decide) ?_
          refine lv_goto (tgt := 29) hx hb dX0_isBlank_25 (by decide) ?_
          exact W.zret (v := nI 1) hx hb hr rfl (fun t ht hW => ⟨_, rfl, (by rw [isB_t (by omega)]; rfl), ht⟩) (fun q h => by cases h) dX0_isBlank_29
set_option maxHeartbeats 4000000 in
set_option maxRecDepth 100000 in
theorem c_isQuote (l : Launch) (x : Nat) : Met l yX0_isQuote wX0_isQuote ({ frames := 0, cells := 0, slots := 0, locals := 0 }) (va_Pc [.int (bI x)] (fun _ => True)) (vp_Si (fun r => r = b2i (isQ x))) 0 0 (fun _ => False) := by
  refine Met.ofW (cc := cX0_isQuote) (maxL := 1) (ret := (some .boolean)) (by decide) rfl ?_
  intro p e s m args below meth c s₁ B hml hv
  obtain ⟨rfl, -⟩ := hv
  have hx := B.exec
  have hb := B.bytes
  have hr := B.returns
  have hts : ∀ w ∈ bw, w.before _ s = true := fun w h => atoms_spec (ws := wX0_isQuote) B.pre w (bc w h)
  have hown : s.vm.findClass RX0 = some m.cls := findClass_of_methodNamed B.named
  have hlocks := B.notSynchronized
  have hl := lv_entry ([.int (bI x)]) (n := 1) (Nat.le_of_ble_eq_true rfl)
  rw [lg_entry_eq]
  generalize (lg_sl ([.int (bI x)]) ++ List.replicate (1 - (lg_sl ([.int (bI x)])).length) Slot.unset).toArray = ls at hl ⊢
  have hl : lv_has ls 1 [(0, .int (bI x))] := hl
  refine lv_iload_n hx hb dX0_isQuote_0 rfl (lv_at hl 0 rfl) ?_
  refine lv_bipush (v := nI 34) hx hb dX0_isQuote_1 (by decide) ?_
  refine lv_icmp_eq (tgt := 12) hx hb dX0_isQuote_3 (by decide) (fun c_1 => ?_) (fun c_1 => ?_)
  · have c_1 := (bI_eqN (by omega)).mp c_1
    refine lv_iconst (v := nI 1) hx hb dX0_isQuote_12 (by decide) ?_
    refine lv_goto (tgt := 17) hx hb dX0_isQuote_13 (by decide) ?_
    exact W.zret (v := nI 1) hx hb hr rfl (fun t ht hW => ⟨_, rfl, (by rw [isQ_t (by omega)]; rfl), ht⟩) (fun q h => by cases h) dX0_isQuote_17
  · have c_1 := mt (bI_eqN (by omega)).mpr c_1
    refine lv_iload_n hx hb dX0_isQuote_6 rfl (lv_at hl 0 rfl) ?_
    refine lv_bipush (v := nI 39) hx hb dX0_isQuote_7 (by decide) ?_
    refine lv_icmp_ne (tgt := 16) hx hb dX0_isQuote_9 (by decide) (fun c_2 => ?_) (fun c_2 => ?_)
    · have c_2 := mt (bI_eqN (by omega)).mpr c_2
      refine lv_iconst (v := nI 0) hx hb dX0_isQuote_16 (by decide) ?_
      exact W.zret (v := nI 0) hx hb hr rfl (fun t ht hW => ⟨_, rfl, (by rw [isQ_f (by omega)]; rfl), ht⟩) (fun q h => by cases h) dX0_isQuote_17
    · have c_2 := (bI_eqN (by omega)).mp c_2
      refine lv_iconst (v := nI 1) hx hb dX0_isQuote_12 (by decide) ?_
      refine lv_goto (tgt := 17) hx hb dX0_isQuote_13 (by decide) ?_
      exact W.zret (v := nI 1) hx hb hr rfl (fun t ht hW => ⟨_, rfl, (by rw [isQ_t (by omega)]; rfl), ht⟩) (fun q h => by cases h) dX0_isQuote_17
set_option maxHeartbeats 4000000 in
set_option maxRecDepth 100000 in
theorem c_kindOfQuote (l : Launch) (x : Nat) : Met l yX0_kindOfQuote wX0_kindOfQuote ({ frames := 0, cells := 0, slots := 0, locals := 0 }) (va_Pc [.int (bI x)] (fun _ => True)) (vp_Si (fun r => r = nI (kdQ x))) 0 0 (fun _ => False) := by
  refine Met.ofW (cc := cX0_kindOfQuote) (maxL := 1) (ret := (some .int)) (by decide) rfl ?_
  intro p e s m args below meth c s₁ B hml hv
  obtain ⟨rfl, -⟩ := hv
  have hx := B.exec
  have hb := B.bytes
  have hr := B.returns
  have hts : ∀ w ∈ bw, w.before _ s = true := fun w h => atoms_spec (ws := wX0_kindOfQuote) B.pre w (bc w h)
  have hown : s.vm.findClass RX0 = some m.cls := findClass_of_methodNamed B.named
  have hlocks := B.notSynchronized
  have hl := lv_entry ([.int (bI x)]) (n := 1) (Nat.le_of_ble_eq_true rfl)
  rw [lg_entry_eq]
  generalize (lg_sl ([.int (bI x)]) ++ List.replicate (1 - (lg_sl ([.int (bI x)])).length) Slot.unset).toArray = ls at hl ⊢
  have hl : lv_has ls 1 [(0, .int (bI x))] := hl
  refine lv_iload_n hx hb dX0_kindOfQuote_0 rfl (lv_at hl 0 rfl) ?_
  refine lv_bipush (v := nI 34) hx hb dX0_kindOfQuote_1 (by decide) ?_
  refine lv_icmp_ne (tgt := 10) hx hb dX0_kindOfQuote_3 (by decide) (fun c_1 => ?_) (fun c_1 => ?_)
  · have c_1 := mt (bI_eqN (by omega)).mpr c_1
    refine lv_iconst (v := nI 4) hx hb dX0_kindOfQuote_10 (by decide) ?_
    exact W.iret (v := nI 4) hx hb hr (fun t ht hW => ⟨_, rfl, (by rw [kdQ, if_neg (by omega)]), ht⟩) (fun q h => by cases h) dX0_kindOfQuote_11
  · have c_1 := (bI_eqN (by omega)).mp c_1
    refine lv_iconst (v := nI 3) hx hb dX0_kindOfQuote_6 (by decide) ?_
    refine lv_goto (tgt := 11) hx hb dX0_kindOfQuote_7 (by decide) ?_
    exact W.iret (v := nI 3) hx hb hr (fun t ht hW => ⟨_, rfl, (by rw [kdQ, if_pos (by omega)]), ht⟩) (fun q h => by cases h) dX0_kindOfQuote_11
set_option maxHeartbeats 4000000 in
set_option maxRecDepth 100000 in
theorem c_startOf (l : Launch) (x : Nat) : Met l yX0_startOf wX0_startOf ({ frames := 0, cells := 0, slots := 0, locals := 0 }) (va_Pc [.long (lN x)] (fun _ => True)) (vp_Si (fun r => r = nI (x % 65536))) 0 0 (fun _ => False) := by
  refine Met.ofW (cc := cX0_startOf) (maxL := 2) (ret := (some .int)) (by decide) rfl ?_
  intro p e s m args below meth c s₁ B hml hv
  obtain ⟨rfl, -⟩ := hv
  have hx := B.exec
  have hb := B.bytes
  have hr := B.returns
  have hts : ∀ w ∈ bw, w.before _ s = true := fun w h => atoms_spec (ws := wX0_startOf) B.pre w (bc w h)
  have hown : s.vm.findClass RX0 = some m.cls := findClass_of_methodNamed B.named
  have hlocks := B.notSynchronized
  have hl := lv_entry ([.long (lN x)]) (n := 2) (Nat.le_of_ble_eq_true rfl)
  rw [lg_entry_eq]
  generalize (lg_sl ([.long (lN x)]) ++ List.replicate (2 - (lg_sl ([.long (lN x)])).length) Slot.unset).toArray = ls at hl ⊢
  have hl : lv_has ls 2 [(0, .long (lN x))] := hl
  refine lv_lload_n hx hb dX0_startOf_0 rfl (lv_at hl 0 rfl) ?_
  refine lv_l2i (v := nI x) hx hb dX0_startOf_1 (lN_i _) ?_
  refine lv_ldc (v := nI 65535) hx hb hown (hts _ cn_X0_75) dX0_startOf_2 ?_
  refine lv_iand hx hb dX0_startOf_4 ?_
  refine lv_topi (fun x_1 e_2 => ?_)
  obtain rfl : x_1 = nI (x % 65536) := e_2.trans (nI_mask x 16 (by decide) (by decide))
  exact W.iret (v := nI (x % 65536)) hx hb hr (fun t ht hW => ⟨_, rfl, rfl, ht⟩) (fun q h => by cases h) dX0_startOf_5
set_option maxHeartbeats 4000000 in
set_option maxRecDepth 100000 in
theorem c_bytesOf (l : Launch) (x : Nat) (hxb : x < 2 ^ 64) : Met l yX0_bytesOf wX0_bytesOf ({ frames := 0, cells := 0, slots := 0, locals := 0 }) (va_Pc [.long (lN x)] (fun _ => True)) (vp_Si (fun r => r = nI (x / 2 ^ 16 % 65536))) 0 0 (fun _ => False) := by
  refine Met.ofW (cc := cX0_bytesOf) (maxL := 2) (ret := (some .int)) (by decide) rfl ?_
  intro p e s m args below meth c s₁ B hml hv
  obtain ⟨rfl, -⟩ := hv
  have hx := B.exec
  have hb := B.bytes
  have hr := B.returns
  have hts : ∀ w ∈ bw, w.before _ s = true := fun w h => atoms_spec (ws := wX0_bytesOf) B.pre w (bc w h)
  have hown : s.vm.findClass RX0 = some m.cls := findClass_of_methodNamed B.named
  have hlocks := B.notSynchronized
  have hl := lv_entry ([.long (lN x)]) (n := 2) (Nat.le_of_ble_eq_true rfl)
  rw [lg_entry_eq]
  generalize (lg_sl ([.long (lN x)]) ++ List.replicate (2 - (lg_sl ([.long (lN x)])).length) Slot.unset).toArray = ls at hl ⊢
  have hl : lv_has ls 2 [(0, .long (lN x))] := hl
  refine lv_lload_n hx hb dX0_bytesOf_0 rfl (lv_at hl 0 rfl) ?_
  refine lv_bipush (v := nI 16) hx hb dX0_bytesOf_1 (by decide) ?_
  refine lv_lushr (v := lN (x / 2 ^ 16)) hx hb dX0_bytesOf_3 (wb_shr (by first | exact tn_lt _ | omega) (by omega)) ?_
  refine lv_l2i (v := nI (x / 2 ^ 16)) hx hb dX0_bytesOf_4 (lN_i _) ?_
  refine lv_ldc (v := nI 65535) hx hb hown (hts _ cn_X0_75) dX0_bytesOf_5 ?_
  refine lv_iand hx hb dX0_bytesOf_7 ?_
  refine lv_topi (fun x_1 e_2 => ?_)
  obtain rfl : x_1 = nI ((x / 2 ^ 16) % 65536) := e_2.trans (nI_mask (x / 2 ^ 16) 16 (by decide) (by decide))
  exact W.iret (v := nI ((x / 2 ^ 16) % 65536)) hx hb hr (fun t ht hW => ⟨_, rfl, rfl, ht⟩) (fun q h => by cases h) dX0_bytesOf_8
set_option maxHeartbeats 4000000 in
set_option maxRecDepth 100000 in
theorem c_goesOnNumber (l : Launch) (x : Nat) (y : Nat) : Met l yX0_goesOnNumber wX0_goesOnNumber ({ frames := 1, cells := 0, slots := 0, locals := 20 }) (va_Pc [.int (bI x), .int (bI y)] (fun _ => True)) (vp_Si (fun r => r = b2i (goN x y))) 0 0 (fun _ => False) := by
  refine Met.ofW (cc := cX0_goesOnNumber) (maxL := 2) (ret := (some .boolean)) (by decide) rfl ?_
  intro p e s m args below meth c s₁ B hml hv
  obtain ⟨rfl, -⟩ := hv
  have hx := B.exec
  have hb := B.bytes
  have hr := B.returns
  have hts : ∀ w ∈ bw, w.before _ s = true := fun w h => atoms_spec (ws := wX0_goesOnNumber) B.pre w (bc w h)
  have hown : s.vm.findClass RX0 = some m.cls := findClass_of_methodNamed B.named
  have hlocks := B.notSynchronized
  have hl := lv_entry ([.int (bI x), .int (bI y)]) (n := 2) (Nat.le_of_ble_eq_true rfl)
  rw [lg_entry_eq]
  generalize (lg_sl ([.int (bI x), .int (bI y)]) ++ List.replicate (2 - (lg_sl ([.int (bI x), .int (bI y)])).length) Slot.unset).toArray = ls at hl ⊢
  have hl : lv_has ls 2 [(0, .int (bI x)), (1, .int (bI y))] := hl
  refine lv_iload_n hx hb dX0_goesOnNumber_0 rfl (lv_at hl 0 rfl) ?_
  refine lv_bipush (v := nI 43) hx hb dX0_goesOnNumber_1 (by decide) ?_
  refine lv_icmp_eq (tgt := 12) hx hb dX0_goesOnNumber_3 (by decide) (fun c_1 => ?_) (fun c_1 => ?_)
  · have c_1 := (bI_eqN (by omega)).mp c_1
    refine lv_iload_n hx hb dX0_goesOnNumber_12 rfl (lv_at hl 1 rfl) ?_
    refine lv_bipush (v := nI 101) hx hb dX0_goesOnNumber_13 (by decide) ?_
    refine lv_icmp_eq (tgt := 36) hx hb dX0_goesOnNumber_15 (by decide) (fun c_2 => ?_) (fun c_2 => ?_)
    · have c_2 := (bI_eqN (by omega)).mp c_2
      refine lv_iconst (v := nI 1) hx hb dX0_goesOnNumber_36 (by decide) ?_
      refine lv_goto (tgt := 41) hx hb dX0_goesOnNumber_37 (by decide) ?_
      exact W.zret (v := nI 1) hx hb hr rfl (fun t ht hW => ⟨_, rfl, (by rw [goN, if_pos (by omega)]; simp only [b2i]; rw [show (decide (y = 101) || decide (y = 69) || decide (y = 112) || decide (y = 80)) = true by simp; omega]; rfl), ht⟩) (fun q h => by cases h) dX0_goesOnNumber_41
    · have c_2 := mt (bI_eqN (by omega)).mpr c_2
      refine lv_iload_n hx hb dX0_goesOnNumber_18 rfl (lv_at hl 1 rfl) ?_
      refine lv_bipush (v := nI 69) hx hb dX0_goesOnNumber_19 (by decide) ?_
      refine lv_icmp_eq (tgt := 36) hx hb dX0_goesOnNumber_21 (by decide) (fun c_3 => ?_) (fun c_3 => ?_)
      · have c_3 := (bI_eqN (by omega)).mp c_3
        refine lv_iconst (v := nI 1) hx hb dX0_goesOnNumber_36 (by decide) ?_
        refine lv_goto (tgt := 41) hx hb dX0_goesOnNumber_37 (by decide) ?_
        exact W.zret (v := nI 1) hx hb hr rfl (fun t ht hW => ⟨_, rfl, (by rw [goN, if_pos (by omega)]; simp only [b2i]; rw [show (decide (y = 101) || decide (y = 69) || decide (y = 112) || decide (y = 80)) = true by simp; omega]; rfl), ht⟩) (fun q h => by cases h) dX0_goesOnNumber_41
      · have c_3 := mt (bI_eqN (by omega)).mpr c_3
        refine lv_iload_n hx hb dX0_goesOnNumber_24 rfl (lv_at hl 1 rfl) ?_
        refine lv_bipush (v := nI 112) hx hb dX0_goesOnNumber_25 (by decide) ?_
        refine lv_icmp_eq (tgt := 36) hx hb dX0_goesOnNumber_27 (by decide) (fun c_4 => ?_) (fun c_4 => ?_)
        · have c_4 := (bI_eqN (by omega)).mp c_4
          refine lv_iconst (v := nI 1) hx hb dX0_goesOnNumber_36 (by decide) ?_
          refine lv_goto (tgt := 41) hx hb dX0_goesOnNumber_37 (by decide) ?_
          exact W.zret (v := nI 1) hx hb hr rfl (fun t ht hW => ⟨_, rfl, (by rw [goN, if_pos (by omega)]; simp only [b2i]; rw [show (decide (y = 101) || decide (y = 69) || decide (y = 112) || decide (y = 80)) = true by simp; omega]; rfl), ht⟩) (fun q h => by cases h) dX0_goesOnNumber_41
        · have c_4 := mt (bI_eqN (by omega)).mpr c_4
          refine lv_iload_n hx hb dX0_goesOnNumber_30 rfl (lv_at hl 1 rfl) ?_
          refine lv_bipush (v := nI 80) hx hb dX0_goesOnNumber_31 (by decide) ?_
          refine lv_icmp_ne (tgt := 40) hx hb dX0_goesOnNumber_33 (by decide) (fun c_5 => ?_) (fun c_5 => ?_)
          · have c_5 := mt (bI_eqN (by omega)).mpr c_5
            refine lv_iconst (v := nI 0) hx hb dX0_goesOnNumber_40 (by decide) ?_
            exact W.zret (v := nI 0) hx hb hr rfl (fun t ht hW => ⟨_, rfl, (by rw [goN, if_pos (by omega)]; rw [show (decide (y = 101) || decide (y = 69) || decide (y = 112) || decide (y = 80)) = false by simp; omega]; rfl), ht⟩) (fun q h => by cases h) dX0_goesOnNumber_41
          · have c_5 := (bI_eqN (by omega)).mp c_5
            refine lv_iconst (v := nI 1) hx hb dX0_goesOnNumber_36 (by decide) ?_
            refine lv_goto (tgt := 41) hx hb dX0_goesOnNumber_37 (by decide) ?_
            exact W.zret (v := nI 1) hx hb hr rfl (fun t ht hW => ⟨_, rfl, (by rw [goN, if_pos (by omega)]; simp only [b2i]; rw [show (decide (y = 101) || decide (y = 69) || decide (y = 112) || decide (y = 80)) = true by simp; omega]; rfl), ht⟩) (fun q h => by cases h) dX0_goesOnNumber_41
  · have c_1 := mt (bI_eqN (by omega)).mpr c_1
    refine lv_iload_n hx hb dX0_goesOnNumber_6 rfl (lv_at hl 0 rfl) ?_
    refine lv_bipush (v := nI 45) hx hb dX0_goesOnNumber_7 (by decide) ?_
    refine lv_icmp_ne (tgt := 42) hx hb dX0_goesOnNumber_9 (by decide) (fun c_6 => ?_) (fun c_6 => ?_)
    · have c_6 := mt (bI_eqN (by omega)).mpr c_6
      refine lv_iload_n hx hb dX0_goesOnNumber_42 rfl (lv_at hl 0 rfl) ?_
      refine vp_callSi (va_Run.run (va_runS (As := [.int (bI x)]) (rest := []) ⟨hx, hb, hml, hown, hts⟩ (c_isDigit l x) (cwS 1 hts (gS (fun _ h => h) ml_X0_142 sm_X0_isDigit ini_X0 co_X0_isDigit) rfl rfl rfl pd_X0_isDigit ⟨Nat.le_of_ble_eq_true rfl, Nat.le_of_ble_eq_true rfl⟩) st_pre rfl rfl hl.1 rfl (lv_room (Nat.le_of_ble_eq_true rfl)) dX0_goesOnNumber_43 ⟨Nat.zero_le _, Nat.zero_le _⟩)) (fun r_7 (e_8 : r_7 = b2i (isD x)) => ?_)
      subst e_8
      refine lv_if_ne (tgt := 62) hx hb dX0_goesOnNumber_46 (by decide) (fun c_9 => ?_) (fun c_9 => ?_)
      · have c_9 := mt (b2i_z (isD x)).mpr c_9
        refine lv_iconst (v := nI 1) hx hb dX0_goesOnNumber_62 (by decide) ?_
        refine lv_goto (tgt := 67) hx hb dX0_goesOnNumber_63 (by decide) ?_
        exact W.zret (v := nI 1) hx hb hr rfl (fun t ht hW => ⟨_, rfl, (by rw [goN, if_neg (by omega)]; rw [show isD x = true by simpa using c_9, Bool.true_or, Bool.true_or]; rfl), ht⟩) (fun q h => by cases h) dX0_goesOnNumber_67
      · have c_9 := (b2i_z (isD x)).mp c_9
        refine lv_iload_n hx hb dX0_goesOnNumber_49 rfl (lv_at hl 0 rfl) ?_
        refine vp_callSi (va_Run.run (va_runS (As := [.int (bI x)]) (rest := []) ⟨hx, hb, hml, hown, hts⟩ (c_isLetter l x) (cwS 1 hts (gS (fun _ h => h) ml_X0_133 sm_X0_isLetter ini_X0 co_X0_isLetter) rfl rfl rfl pd_X0_isLetter ⟨Nat.le_of_ble_eq_true rfl, Nat.le_of_ble_eq_true rfl⟩) st_pre rfl rfl hl.1 rfl (lv_room (Nat.le_of_ble_eq_true rfl)) dX0_goesOnNumber_50 ⟨Nat.zero_le _, Nat.zero_le _⟩)) (fun r_10 (e_11 : r_10 = b2i (isL x)) => ?_)
        subst e_11
        refine lv_if_ne (tgt := 62) hx hb dX0_goesOnNumber_53 (by decide) (fun c_12 => ?_) (fun c_12 => ?_)
        · have c_12 := mt (b2i_z (isL x)).mpr c_12
          refine lv_iconst (v := nI 1) hx hb dX0_goesOnNumber_62 (by decide) ?_
          refine lv_goto (tgt := 67) hx hb dX0_goesOnNumber_63 (by decide) ?_
          exact W.zret (v := nI 1) hx hb hr rfl (fun t ht hW => ⟨_, rfl, (by rw [goN, if_neg (by omega)]; rw [show isL x = true by simpa using c_12, Bool.or_true, Bool.true_or]; rfl), ht⟩) (fun q h => by cases h) dX0_goesOnNumber_67
        · have c_12 := (b2i_z (isL x)).mp c_12
          refine lv_iload_n hx hb dX0_goesOnNumber_56 rfl (lv_at hl 0 rfl) ?_
          refine lv_bipush (v := nI 46) hx hb dX0_goesOnNumber_57 (by decide) ?_
          refine lv_icmp_ne (tgt := 66) hx hb dX0_goesOnNumber_59 (by decide) (fun c_13 => ?_) (fun c_13 => ?_)
          · have c_13 := mt (bI_eqN (by omega)).mpr c_13
            refine lv_iconst (v := nI 0) hx hb dX0_goesOnNumber_66 (by decide) ?_
            exact W.zret (v := nI 0) hx hb hr rfl (fun t ht hW => ⟨_, rfl, (by rw [goN, if_neg (by omega), c_9, c_12]; rw [show (decide (x = 46)) = false by simp; omega]; rfl), ht⟩) (fun q h => by cases h) dX0_goesOnNumber_67
          · have c_13 := (bI_eqN (by omega)).mp c_13
            refine lv_iconst (v := nI 1) hx hb dX0_goesOnNumber_62 (by decide) ?_
            refine lv_goto (tgt := 67) hx hb dX0_goesOnNumber_63 (by decide) ?_
            exact W.zret (v := nI 1) hx hb hr rfl (fun t ht hW => ⟨_, rfl, (by rw [goN, if_neg (by omega)]; rw [show (decide (x = 46)) = true by simp; omega, Bool.or_true]; rfl), ht⟩) (fun q h => by cases h) dX0_goesOnNumber_67
    · have c_6 := (bI_eqN (by omega)).mp c_6
      refine lv_iload_n hx hb dX0_goesOnNumber_12 rfl (lv_at hl 1 rfl) ?_
      refine lv_bipush (v := nI 101) hx hb dX0_goesOnNumber_13 (by decide) ?_
      refine lv_icmp_eq (tgt := 36) hx hb dX0_goesOnNumber_15 (by decide) (fun c_14 => ?_) (fun c_14 => ?_)
      · have c_14 := (bI_eqN (by omega)).mp c_14
        refine lv_iconst (v := nI 1) hx hb dX0_goesOnNumber_36 (by decide) ?_
        refine lv_goto (tgt := 41) hx hb dX0_goesOnNumber_37 (by decide) ?_
        exact W.zret (v := nI 1) hx hb hr rfl (fun t ht hW => ⟨_, rfl, (by rw [goN, if_pos (by omega)]; simp only [b2i]; rw [show (decide (y = 101) || decide (y = 69) || decide (y = 112) || decide (y = 80)) = true by simp; omega]; rfl), ht⟩) (fun q h => by cases h) dX0_goesOnNumber_41
      · have c_14 := mt (bI_eqN (by omega)).mpr c_14
        refine lv_iload_n hx hb dX0_goesOnNumber_18 rfl (lv_at hl 1 rfl) ?_
        refine lv_bipush (v := nI 69) hx hb dX0_goesOnNumber_19 (by decide) ?_
        refine lv_icmp_eq (tgt := 36) hx hb dX0_goesOnNumber_21 (by decide) (fun c_15 => ?_) (fun c_15 => ?_)
        · have c_15 := (bI_eqN (by omega)).mp c_15
          refine lv_iconst (v := nI 1) hx hb dX0_goesOnNumber_36 (by decide) ?_
          refine lv_goto (tgt := 41) hx hb dX0_goesOnNumber_37 (by decide) ?_
          exact W.zret (v := nI 1) hx hb hr rfl (fun t ht hW => ⟨_, rfl, (by rw [goN, if_pos (by omega)]; simp only [b2i]; rw [show (decide (y = 101) || decide (y = 69) || decide (y = 112) || decide (y = 80)) = true by simp; omega]; rfl), ht⟩) (fun q h => by cases h) dX0_goesOnNumber_41
        · have c_15 := mt (bI_eqN (by omega)).mpr c_15
          refine lv_iload_n hx hb dX0_goesOnNumber_24 rfl (lv_at hl 1 rfl) ?_
          refine lv_bipush (v := nI 112) hx hb dX0_goesOnNumber_25 (by decide) ?_
          refine lv_icmp_eq (tgt := 36) hx hb dX0_goesOnNumber_27 (by decide) (fun c_16 => ?_) (fun c_16 => ?_)
          · have c_16 := (bI_eqN (by omega)).mp c_16
            refine lv_iconst (v := nI 1) hx hb dX0_goesOnNumber_36 (by decide) ?_
            refine lv_goto (tgt := 41) hx hb dX0_goesOnNumber_37 (by decide) ?_
            exact W.zret (v := nI 1) hx hb hr rfl (fun t ht hW => ⟨_, rfl, (by rw [goN, if_pos (by omega)]; simp only [b2i]; rw [show (decide (y = 101) || decide (y = 69) || decide (y = 112) || decide (y = 80)) = true by simp; omega]; rfl), ht⟩) (fun q h => by cases h) dX0_goesOnNumber_41
          · have c_16 := mt (bI_eqN (by omega)).mpr c_16
            refine lv_iload_n hx hb dX0_goesOnNumber_30 rfl (lv_at hl 1 rfl) ?_
            refine lv_bipush (v := nI 80) hx hb dX0_goesOnNumber_31 (by decide) ?_
            refine lv_icmp_ne (tgt := 40) hx hb dX0_goesOnNumber_33 (by decide) (fun c_17 => ?_) (fun c_17 => ?_)
            · have c_17 := mt (bI_eqN (by omega)).mpr c_17
              refine lv_iconst (v := nI 0) hx hb dX0_goesOnNumber_40 (by decide) ?_
              exact W.zret (v := nI 0) hx hb hr rfl (fun t ht hW => ⟨_, rfl, (by rw [goN, if_pos (by omega)]; rw [show (decide (y = 101) || decide (y = 69) || decide (y = 112) || decide (y = 80)) = false by simp; omega]; rfl), ht⟩) (fun q h => by cases h) dX0_goesOnNumber_41
            · have c_17 := (bI_eqN (by omega)).mp c_17
              refine lv_iconst (v := nI 1) hx hb dX0_goesOnNumber_36 (by decide) ?_
              refine lv_goto (tgt := 41) hx hb dX0_goesOnNumber_37 (by decide) ?_
              exact W.zret (v := nI 1) hx hb hr rfl (fun t ht hW => ⟨_, rfl, (by rw [goN, if_pos (by omega)]; simp only [b2i]; rw [show (decide (y = 101) || decide (y = 69) || decide (y = 112) || decide (y = 80)) = true by simp; omega]; rfl), ht⟩) (fun q h => by cases h) dX0_goesOnNumber_41
end
section
set_option maxHeartbeats 4000000 in
set_option maxRecDepth 100000 in
theorem c_byteAt (l : Launch) (dC : Nat → ClassId) (dI : Nat → Nat → Nat) (cA : ClassId) (a0 a1 a2 : Nat) (Z : Nat → Nat) (T K : Nat → Int64) (q : Nat) (hn : Z 2 ≤ 32768) (hq : q < 2 ^ 31) : Met l yX0_byteAt wX0_byteAt ({ frames := 0, cells := 0, slots := 0, locals := 0 }) (va_Pc [.ref a0, .int (nI q)] (lmR dC dI cA a0 a1 a2 (Z, T, K))) (vp_Si (fun r => r = bI (gb T (Z 2) q))) 0 0 (fun _ => False) := by
  refine Met.ofW (cc := cX0_byteAt) (maxL := 3) (ret := (some .int)) (by decide) rfl ?_
  intro p e s m args below meth c s₁ B hml hv
  obtain ⟨rfl, hP, hK⟩ := hv
  have hx := B.exec
  have hb := B.bytes
  have hr := B.returns
  have hts : ∀ w ∈ bw, w.before _ s = true := fun w h => atoms_spec (ws := wX0_byteAt) B.pre w (bc w h)
  have hown : s.vm.findClass RX0 = some m.cls := findClass_of_methodNamed B.named
  have hlocks := B.notSynchronized
  have hl := lv_entry ([.ref a0, .int (nI q)]) (n := 3) (Nat.le_of_ble_eq_true rfl)
  rw [lg_entry_eq]
  generalize (lg_sl ([.ref a0, .int (nI q)]) ++ List.replicate (3 - (lg_sl ([.ref a0, .int (nI q)])).length) Slot.unset).toArray = ls at hl ⊢
  have hl : lv_has ls 3 [(0, .ref a0), (1, .int (nI q))] := hl
  refine lv_iload_n hx hb dX0_byteAt_0 rfl (lv_at hl 1 rfl) ?_
  refine lv_iconst (v := nI 3) hx hb dX0_byteAt_1 (by decide) ?_
  refine lv_ishr hx hb dX0_byteAt_2 ?_
  refine lv_topi (fun x_1 e_2 => ?_)
  obtain rfl : x_1 = nI (q / 8) := e_2.trans (pk_shrN (by omega) _ 3 (by decide))
  refine lv_istore_n (lv' := [(2, .int (nI (q / 8))), (0, .ref a0), (1, .int (nI q))]) hx hb dX0_byteAt_3 rfl hl (by decide) rfl (fun ls hl => ?_)
  refine lv_iload_n hx hb dX0_byteAt_4 rfl (lv_at hl 2 rfl) ?_
  refine lv_if_lt (tgt := 25) hx hb dX0_byteAt_5 (by decide) (fun c_3 => ?_) (fun c_3 => ?_)
  · have c_3 := (nI_ltI (a := q) (b := 0) (by omega) (by omega)).mp c_3
    refine lv_iconst (v := (-1)) hx hb dX0_byteAt_25 (by decide) ?_
    exact W.iret (v := (-1)) hx hb hr (fun t ht hW => ⟨_, rfl, (by rw [gb_hi (by omega)]; rfl), ht⟩) (fun q h => by cases h) dX0_byteAt_26
  · have c_3 := mt (nI_ltI (a := q) (b := 0) (by omega) (by omega)).mpr c_3
    refine lv_iload_n hx hb dX0_byteAt_8 rfl (lv_at hl 2 rfl) ?_
    refine lv_aload_n hx hb dX0_byteAt_9 rfl (lv_at hl 1 rfl) ?_
    refine va_get (D := (dC, dI)) (ci := 0) (v := .int (nI (Z 2))) (C := RX0) (T := TX0) (N := 16) hx hb hts inX0 hown hK hP 0 rfl rfl 2 (by decide) (hts _ fl_X0_19) (fun _ h9 => h9) rfl dX0_byteAt_10 ?_
    refine lv_icmp_ge (tgt := 25) hx hb dX0_byteAt_13 (by decide) (fun c_4 => ?_) (fun c_4 => ?_)
    · have c_4 := (nI_leI (a := Z 2) (b := q) (by omega) (by omega)).mp c_4
      refine lv_iconst (v := (-1)) hx hb dX0_byteAt_25 (by decide) ?_
      exact W.iret (v := (-1)) hx hb hr (fun t ht hW => ⟨_, rfl, (by rw [gb_hi (by omega)]; rfl), ht⟩) (fun q h => by cases h) dX0_byteAt_26
    · have c_4 := mt (nI_leI (a := Z 2) (b := q) (by omega) (by omega)).mpr c_4
      refine lv_iload_n hx hb dX0_byteAt_16 rfl (lv_at hl 0 rfl) ?_
      refine lv_aload_n hx hb dX0_byteAt_17 rfl (lv_at hl 1 rfl) ?_
      refine va_get (D := (dC, dI)) (ci := 0) (v := .ref a1) (C := RX0) (T := TX0) (N := 16) hx hb hts inX0 hown hK hP 0 rfl rfl 0 (by decide) (hts _ fl_X0_9) (fun _ h9 => h9) rfl dX0_byteAt_18 ?_
      refine va_alen hx hb hK hP 1 0 rfl rfl (v := nI 4096) rfl dX0_byteAt_21 ?_
      refine lv_icmp_lt (tgt := 27) hx hb dX0_byteAt_22 (by decide) (fun c_5 => ?_) (fun c_5 => ?_)
      · have c_5 := (nI_ltI (a := q / 8) (b := 4096) (by omega) (by omega)).mp c_5
        refine lv_aload_n hx hb dX0_byteAt_27 rfl (lv_at hl 1 rfl) ?_
        refine va_get (D := (dC, dI)) (ci := 0) (v := .ref a1) (C := RX0) (T := TX0) (N := 16) hx hb hts inX0 hown hK hP 0 rfl rfl 0 (by decide) (hts _ fl_X0_9) (fun _ h9 => h9) rfl dX0_byteAt_28 ?_
        refine lv_iload_n hx hb dX0_byteAt_31 rfl (lv_at hl 0 rfl) ?_
        refine va_lald hx hb hK hP 1 0 rfl rfl (vp_in_nI (by omega) (by decide)) dX0_byteAt_32 ?_
        refine lv_topl (fun x_6 e_7 => ?_)
        obtain rfl : x_6 = lN (tn (T (q / 8))) := e_7.trans (by rw [nI_clamp (by omega), tn_lN])
        refine lv_iload_n hx hb dX0_byteAt_33 rfl (lv_at hl 2 rfl) ?_
        refine lv_bipush (v := nI 7) hx hb dX0_byteAt_34 (by decide) ?_
        refine lv_iand hx hb dX0_byteAt_36 ?_
        refine lv_topi (fun x_8 e_9 => ?_)
        obtain rfl : x_8 = nI (q % 8) := e_9.trans (nI_mask q 3 (by decide) (by decide))
        refine lv_iconst (v := nI 3) hx hb dX0_byteAt_37 (by decide) ?_
        refine lv_ishl hx hb dX0_byteAt_38 ?_
        refine lv_topi (fun x_10 e_11 => ?_)
        obtain rfl : x_10 = nI ((q % 8) * 8) := e_11.trans (pk_shlN _ 3 (by decide) (by omega))
        refine lv_lushr (v := lN ((tn (T (q / 8))) / 2 ^ ((q % 8) * 8))) hx hb dX0_byteAt_39 (wb_shr (by first | exact tn_lt _ | omega) (by omega)) ?_
        refine lv_l2i (v := nI ((tn (T (q / 8))) / 2 ^ ((q % 8) * 8))) hx hb dX0_byteAt_40 (lN_i _) ?_
        refine lv_sipush (v := nI 255) hx hb dX0_byteAt_41 (by decide) ?_
        refine lv_iand hx hb dX0_byteAt_44 ?_
        refine lv_topi (fun x_12 e_13 => ?_)
        obtain rfl : x_12 = nI (((tn (T (q / 8))) / 2 ^ ((q % 8) * 8)) % 256) := e_13.trans (nI_mask ((tn (T (q / 8))) / 2 ^ ((q % 8) * 8)) 8 (by decide) (by decide))
        exact W.iret (v := nI (((tn (T (q / 8))) / 2 ^ ((q % 8) * 8)) % 256)) hx hb hr (fun t ht hW => ⟨_, rfl, (by rw [gb_lo (by omega), bI_lo (byt_lt _ _), byt, Nat.mul_comm 8]), ht⟩) (fun q h => by cases h) dX0_byteAt_45
      · have c_5 := mt (nI_ltI (a := q / 8) (b := 4096) (by omega) (by omega)).mpr c_5
        refine lv_iconst (v := (-1)) hx hb dX0_byteAt_25 (by decide) ?_
        exact W.iret (v := (-1)) hx hb hr (fun t ht hW => ⟨_, rfl, (by rw [gb_hi (by omega)]; rfl), ht⟩) (fun q h => by cases h) dX0_byteAt_26
set_option maxHeartbeats 4000000 in
set_option maxRecDepth 100000 in
theorem k_leftFrom_2 {p : Program} {l : Launch} {e : Env} {s : State} {m : MethodId} {args : Array Value} {below : List Frame} {meth : Method} {c : Code} (hx : p.tables.exec = Jvm.exec) (hb : c.code = cX0_leftFrom) (hr : meth.sig.returnType = (some .int)) (hml : c.maxLocals = 3) (hown : s.vm.findClass RX0 = some m.cls) (hts : ∀ w ∈ bw, w.before args s = true) (hlocks : meth.locks = false) {dC : Nat → ClassId} {dI : Nat → Nat → Nat} {cA : ClassId} {a0 a1 a2 : Nat} {Z : Nat → Nat} {T K : Nat → Int64} (hK : va_K (dC, dI) vwCl [(cA, .long)] s) (hP : va_P (dC, dI) vwCl (lmW cA a0 a1 a2 (Z, T, K)) s.heap)  (hn : Z 2 ≤ 32768) (P : Int32 → Prop) : ∀ (k : Nat) (q : Nat), Z 2 - q < k → q < 2 ^ 30 → P (nI (lf T (Z 2) q)) → ∀ ls, lv_has ls 3 [(0, .ref a0), (2, .int (nI q))] → W p l e (headSpec wX0_leftFrom ({ frames := 1, cells := 0, slots := 0, locals := 22 })).room s m args below meth c s.heap [] 0 0 (MQ below (vp_Si P) args s 0 0 (fun _ => False)) (F0 m 2 ls []) := by
  intro k
  induction k with
  | zero => intro q hk; exact absurd hk (by omega)
  | succ k ih =>
    intro q hk hq hQ ls hl
    refine lv_iload_n hx hb dX0_leftFrom_2 rfl (lv_at hl 1 rfl) ?_
    refine lv_iconst (v := nI 1) hx hb dX0_leftFrom_3 (by decide) ?_
    refine lv_iadd hx hb dX0_leftFrom_4 ?_
    refine lv_topi (fun x_1 e_2 => ?_)
    obtain rfl : x_1 = nI (q + 1) := e_2.trans (nI_add q 1)
    refine lv_aload_n hx hb dX0_leftFrom_5 rfl (lv_at hl 0 rfl) ?_
    refine va_get (D := (dC, dI)) (ci := 0) (v := .int (nI (Z 2))) (C := RX0) (T := TX0) (N := 16) hx hb hts inX0 hown hK hP 0 rfl rfl 2 (by decide) (hts _ fl_X0_19) (fun _ h9 => h9) rfl dX0_leftFrom_6 ?_
    refine lv_icmp_ge (tgt := 40) hx hb dX0_leftFrom_9 (by decide) (fun c_3 => ?_) (fun c_3 => ?_)
    · have c_3 := (nI_leI (a := Z 2) (b := q + 1) (by omega) (by omega)).mp c_3
      refine lv_iload_n hx hb dX0_leftFrom_40 rfl (lv_at hl 1 rfl) ?_
      exact W.iret (v := nI q) hx hb hr (fun t ht hW => ⟨_, rfl, (by rw [lf, if_neg (by omega)] at hQ; exact hQ), ht⟩) (fun q h => by cases h) dX0_leftFrom_41
    · have c_3 := mt (nI_leI (a := Z 2) (b := q + 1) (by omega) (by omega)).mpr c_3
      refine lv_aload_n hx hb dX0_leftFrom_12 rfl (lv_at hl 0 rfl) ?_
      refine lv_iload_n hx hb dX0_leftFrom_13 rfl (lv_at hl 1 rfl) ?_
      refine vp_callSi (va_Run.run (va_runV (As := [.int (nI q)]) (rest := []) ⟨hx, hb, hml, hown, hts⟩ (c_byteAt l dC dI cA a0 a1 a2 Z T K q (show Z 2 ≤ 32768 by omega) (show q < 2 ^ 31 by omega)) (cwV 1 hts (gV (fun _ h => h) ml_X0_28 im_X0_byteAt se_X0_byteAt ini_X0 co_X0_byteAt) rfl rfl rfl pd_X0_byteAt ⟨Nat.le_of_ble_eq_true rfl, Nat.le_of_ble_eq_true rfl⟩) (lm_preR hK hP) rfl rfl hl.1 rfl (lv_room (Nat.le_of_ble_eq_true rfl)) dX0_leftFrom_14 ⟨Nat.zero_le _, Nat.zero_le _⟩)) (fun r_4 (e_5 : r_4 = bI (gb T (Z 2) q)) => ?_)
      subst e_5
      have := gb_in T (Z 2) q
      refine lv_bipush (v := nI 92) hx hb dX0_leftFrom_17 (by decide) ?_
      refine lv_icmp_ne (tgt := 40) hx hb dX0_leftFrom_19 (by decide) (fun c_6 => ?_) (fun c_6 => ?_)
      · have c_6 := mt (bI_eqN (by omega)).mpr c_6
        refine lv_iload_n hx hb dX0_leftFrom_40 rfl (lv_at hl 1 rfl) ?_
        exact W.iret (v := nI q) hx hb hr (fun t ht hW => ⟨_, rfl, (by rw [lf, if_neg (by omega)] at hQ; exact hQ), ht⟩) (fun q h => by cases h) dX0_leftFrom_41
      · have c_6 := (bI_eqN (by omega)).mp c_6
        refine lv_aload_n hx hb dX0_leftFrom_22 rfl (lv_at hl 0 rfl) ?_
        refine lv_iload_n hx hb dX0_leftFrom_23 rfl (lv_at hl 1 rfl) ?_
        refine lv_iconst (v := nI 1) hx hb dX0_leftFrom_24 (by decide) ?_
        refine lv_iadd hx hb dX0_leftFrom_25 ?_
        refine lv_topi (fun x_7 e_8 => ?_)
        obtain rfl : x_7 = nI (q + 1) := e_8.trans (nI_add q 1)
        refine vp_callSi (va_Run.run (va_runV (As := [.int (nI (q + 1))]) (rest := []) ⟨hx, hb, hml, hown, hts⟩ (c_byteAt l dC dI cA a0 a1 a2 Z T K (q + 1) (show Z 2 ≤ 32768 by omega) (show q + 1 < 2 ^ 31 by omega)) (cwV 1 hts (gV (fun _ h => h) ml_X0_28 im_X0_byteAt se_X0_byteAt ini_X0 co_X0_byteAt) rfl rfl rfl pd_X0_byteAt ⟨Nat.le_of_ble_eq_true rfl, Nat.le_of_ble_eq_true rfl⟩) (lm_preR hK hP) rfl rfl hl.1 rfl (lv_room (Nat.le_of_ble_eq_true rfl)) dX0_leftFrom_26 ⟨Nat.zero_le _, Nat.zero_le _⟩)) (fun r_9 (e_10 : r_9 = bI (gb T (Z 2) (q + 1))) => ?_)
        subst e_10
        have := gb_in T (Z 2) (q + 1)
        refine lv_bipush (v := nI 10) hx hb dX0_leftFrom_29 (by decide) ?_
        refine lv_icmp_ne (tgt := 40) hx hb dX0_leftFrom_31 (by decide) (fun c_11 => ?_) (fun c_11 => ?_)
        · have c_11 := mt (bI_eqN (by omega)).mpr c_11
          refine lv_iload_n hx hb dX0_leftFrom_40 rfl (lv_at hl 1 rfl) ?_
          exact W.iret (v := nI q) hx hb hr (fun t ht hW => ⟨_, rfl, (by rw [lf, if_neg (by omega)] at hQ; exact hQ), ht⟩) (fun q h => by cases h) dX0_leftFrom_41
        · have c_11 := (bI_eqN (by omega)).mp c_11
          refine lv_iinc (v := nI (q + 2)) (lv' := [(2, .int (nI (q + 2))), (0, .ref a0)]) hx hb dX0_leftFrom_34 hl (k := 1) rfl (by exact nI_add q 2) (by decide) rfl (fun ls hl => ?_)
          refine lv_goto (tgt := 2) hx hb dX0_leftFrom_37 (by decide) ?_
          exact ih (q + 2) (by omega) (by omega) (by rw [lf, if_pos (by omega)] at hQ; exact hQ) _ (lv_sub hl [1, 0] rfl)
set_option maxHeartbeats 4000000 in
set_option maxRecDepth 100000 in
theorem c_leftFrom (l : Launch) (dC : Nat → ClassId) (dI : Nat → Nat → Nat) (cA : ClassId) (a0 a1 a2 : Nat) (Z : Nat → Nat) (T K : Nat → Int64) (q : Nat) (hn : Z 2 ≤ 32768) (hq : q < 2 ^ 30) : Met l yX0_leftFrom wX0_leftFrom ({ frames := 1, cells := 0, slots := 0, locals := 22 }) (va_Pc [.ref a0, .int (nI q)] (lmR dC dI cA a0 a1 a2 (Z, T, K))) (vp_Si (fun r => r = nI (lf T (Z 2) q))) 0 0 (fun _ => False) := by
  refine Met.ofW (cc := cX0_leftFrom) (maxL := 3) (ret := (some .int)) (by decide) rfl ?_
  intro p e s m args below meth c s₁ B hml hv
  obtain ⟨rfl, hP, hK⟩ := hv
  have hx := B.exec
  have hb := B.bytes
  have hr := B.returns
  have hts : ∀ w ∈ bw, w.before _ s = true := fun w h => atoms_spec (ws := wX0_leftFrom) B.pre w (bc w h)
  have hown : s.vm.findClass RX0 = some m.cls := findClass_of_methodNamed B.named
  have hlocks := B.notSynchronized
  have hl := lv_entry ([.ref a0, .int (nI q)]) (n := 3) (Nat.le_of_ble_eq_true rfl)
  rw [lg_entry_eq]
  generalize (lg_sl ([.ref a0, .int (nI q)]) ++ List.replicate (3 - (lg_sl ([.ref a0, .int (nI q)])).length) Slot.unset).toArray = ls at hl ⊢
  have hl : lv_has ls 3 [(0, .ref a0), (1, .int (nI q))] := hl
  refine lv_iload_n hx hb dX0_leftFrom_0 rfl (lv_at hl 1 rfl) ?_
  refine lv_istore_n (lv' := [(2, .int (nI q)), (0, .ref a0), (1, .int (nI q))]) hx hb dX0_leftFrom_1 rfl hl (by decide) rfl (fun ls hl => ?_)
  exact k_leftFrom_2 hx hb hr hml hown hts hlocks hK hP hn (fun r => r = nI (lf T (Z 2) q)) (Z 2 - q + 1) q (by omega) hq rfl _ (lv_sub hl [1, 0] rfl)
set_option maxHeartbeats 4000000 in
set_option maxRecDepth 100000 in
theorem k_lineEnd_2 {p : Program} {l : Launch} {e : Env} {s : State} {m : MethodId} {args : Array Value} {below : List Frame} {meth : Method} {c : Code} (hx : p.tables.exec = Jvm.exec) (hb : c.code = cX0_lineEnd) (hr : meth.sig.returnType = (some .int)) (hml : c.maxLocals = 3) (hown : s.vm.findClass RX0 = some m.cls) (hts : ∀ w ∈ bw, w.before args s = true) (hlocks : meth.locks = false) {dC : Nat → ClassId} {dI : Nat → Nat → Nat} {cA : ClassId} {a0 a1 a2 : Nat} {Z : Nat → Nat} {T K : Nat → Int64} (hK : va_K (dC, dI) vwCl [(cA, .long)] s) (hP : va_P (dC, dI) vwCl (lmW cA a0 a1 a2 (Z, T, K)) s.heap)  (hn : Z 2 ≤ 32768) (P : Int32 → Prop) : ∀ (k : Nat) (q : Nat), Z 2 - q < k → q < 2 ^ 30 - 1 → P (nI (lnE T (Z 2) q)) → ∀ ls, lv_has ls 3 [(0, .ref a0), (2, .int (nI q))] → W p l e (headSpec wX0_lineEnd ({ frames := 2, cells := 0, slots := 0, locals := 44 })).room s m args below meth c s.heap [] 0 0 (MQ below (vp_Si P) args s 0 0 (fun _ => False)) (F0 m 2 ls []) := by
  intro k
  induction k with
  | zero => intro q hk; exact absurd hk (by omega)
  | succ k ih =>
    intro q hk hq hQ ls hl
    refine lv_iload_n hx hb dX0_lineEnd_2 rfl (lv_at hl 1 rfl) ?_
    refine lv_aload_n hx hb dX0_lineEnd_3 rfl (lv_at hl 0 rfl) ?_
    refine va_get (D := (dC, dI)) (ci := 0) (v := .int (nI (Z 2))) (C := RX0) (T := TX0) (N := 16) hx hb hts inX0 hown hK hP 0 rfl rfl 2 (by decide) (hts _ fl_X0_19) (fun _ h9 => h9) rfl dX0_lineEnd_4 ?_
    refine lv_icmp_ge (tgt := 31) hx hb dX0_lineEnd_7 (by decide) (fun c_1 => ?_) (fun c_1 => ?_)
    · have c_1 := (nI_leI (a := Z 2) (b := q) (by omega) (by omega)).mp c_1
      refine lv_iload_n hx hb dX0_lineEnd_31 rfl (lv_at hl 1 rfl) ?_
      exact W.iret (v := nI q) hx hb hr (fun t ht hW => ⟨_, rfl, (by rw [lnE, if_neg (by omega)] at hQ; exact hQ), ht⟩) (fun q h => by cases h) dX0_lineEnd_32
    · have c_1 := mt (nI_leI (a := Z 2) (b := q) (by omega) (by omega)).mpr c_1
      refine lv_aload_n hx hb dX0_lineEnd_10 rfl (lv_at hl 0 rfl) ?_
      refine lv_iload_n hx hb dX0_lineEnd_11 rfl (lv_at hl 1 rfl) ?_
      refine vp_callSi (va_Run.run (va_runV (As := [.int (nI q)]) (rest := []) ⟨hx, hb, hml, hown, hts⟩ (c_byteAt l dC dI cA a0 a1 a2 Z T K q (show Z 2 ≤ 32768 by omega) (show q < 2 ^ 31 by omega)) (cwV 1 hts (gV (fun _ h => h) ml_X0_28 im_X0_byteAt se_X0_byteAt ini_X0 co_X0_byteAt) rfl rfl rfl pd_X0_byteAt ⟨Nat.le_of_ble_eq_true rfl, Nat.le_of_ble_eq_true rfl⟩) (lm_preR hK hP) rfl rfl hl.1 rfl (lv_room (Nat.le_of_ble_eq_true rfl)) dX0_lineEnd_12 ⟨Nat.zero_le _, Nat.zero_le _⟩)) (fun r_2 (e_3 : r_2 = bI (gb T (Z 2) q)) => ?_)
      subst e_3
      have := gb_in T (Z 2) q
      refine lv_bipush (v := nI 10) hx hb dX0_lineEnd_15 (by decide) ?_
      refine lv_icmp_eq (tgt := 31) hx hb dX0_lineEnd_17 (by decide) (fun c_4 => ?_) (fun c_4 => ?_)
      · have c_4 := (bI_eqN (by omega)).mp c_4
        refine lv_iload_n hx hb dX0_lineEnd_31 rfl (lv_at hl 1 rfl) ?_
        exact W.iret (v := nI q) hx hb hr (fun t ht hW => ⟨_, rfl, (by rw [lnE, if_neg (by omega)] at hQ; exact hQ), ht⟩) (fun q h => by cases h) dX0_lineEnd_32
      · have c_4 := mt (bI_eqN (by omega)).mpr c_4
        refine lv_aload_n hx hb dX0_lineEnd_20 rfl (lv_at hl 0 rfl) ?_
        refine lv_iload_n hx hb dX0_lineEnd_21 rfl (lv_at hl 1 rfl) ?_
        refine lv_iconst (v := nI 1) hx hb dX0_lineEnd_22 (by decide) ?_
        refine lv_iadd hx hb dX0_lineEnd_23 ?_
        refine lv_topi (fun x_5 e_6 => ?_)
        obtain rfl : x_5 = nI (q + 1) := e_6.trans (nI_add q 1)
        refine vp_callSi (va_Run.run (va_runV (As := [.int (nI (q + 1))]) (rest := []) ⟨hx, hb, hml, hown, hts⟩ (c_leftFrom l dC dI cA a0 a1 a2 Z T K (q + 1) (show Z 2 ≤ 32768 by omega) (show q + 1 < 2 ^ 30 by omega)) (cwV 1 hts (gV (fun _ h => h) ml_X0_42 im_X0_leftFrom se_X0_leftFrom ini_X0 co_X0_leftFrom) rfl rfl rfl pd_X0_leftFrom ⟨Nat.le_of_ble_eq_true rfl, Nat.le_of_ble_eq_true rfl⟩) (lm_preR hK hP) rfl rfl hl.1 rfl (lv_room (Nat.le_of_ble_eq_true rfl)) dX0_lineEnd_24 ⟨Nat.zero_le _, Nat.zero_le _⟩)) (fun r_7 (e_8 : r_7 = nI (lf T (Z 2) (q + 1))) => ?_)
        subst e_8
        have := lf_b T (Z 2) (q + 1)
        refine lv_istore_n (lv' := [(2, .int (nI (lf T (Z 2) (q + 1)))), (0, .ref a0)]) hx hb dX0_lineEnd_27 rfl hl (by decide) rfl (fun ls hl => ?_)
        refine lv_goto (tgt := 2) hx hb dX0_lineEnd_28 (by decide) ?_
        exact ih (lf T (Z 2) (q + 1)) (by omega) (by omega) (by rw [lnE, if_pos (by omega)] at hQ; exact hQ) _ (lv_sub hl [1, 0] rfl)
set_option maxHeartbeats 4000000 in
set_option maxRecDepth 100000 in
theorem c_lineEnd (l : Launch) (dC : Nat → ClassId) (dI : Nat → Nat → Nat) (cA : ClassId) (a0 a1 a2 : Nat) (Z : Nat → Nat) (T K : Nat → Int64) (q : Nat) (hn : Z 2 ≤ 32768) (hq : q < 2 ^ 30 - 1) : Met l yX0_lineEnd wX0_lineEnd ({ frames := 2, cells := 0, slots := 0, locals := 44 }) (va_Pc [.ref a0, .int (nI q)] (lmR dC dI cA a0 a1 a2 (Z, T, K))) (vp_Si (fun r => r = nI (lnE T (Z 2) q))) 0 0 (fun _ => False) := by
  refine Met.ofW (cc := cX0_lineEnd) (maxL := 3) (ret := (some .int)) (by decide) rfl ?_
  intro p e s m args below meth c s₁ B hml hv
  obtain ⟨rfl, hP, hK⟩ := hv
  have hx := B.exec
  have hb := B.bytes
  have hr := B.returns
  have hts : ∀ w ∈ bw, w.before _ s = true := fun w h => atoms_spec (ws := wX0_lineEnd) B.pre w (bc w h)
  have hown : s.vm.findClass RX0 = some m.cls := findClass_of_methodNamed B.named
  have hlocks := B.notSynchronized
  have hl := lv_entry ([.ref a0, .int (nI q)]) (n := 3) (Nat.le_of_ble_eq_true rfl)
  rw [lg_entry_eq]
  generalize (lg_sl ([.ref a0, .int (nI q)]) ++ List.replicate (3 - (lg_sl ([.ref a0, .int (nI q)])).length) Slot.unset).toArray = ls at hl ⊢
  have hl : lv_has ls 3 [(0, .ref a0), (1, .int (nI q))] := hl
  refine lv_iload_n hx hb dX0_lineEnd_0 rfl (lv_at hl 1 rfl) ?_
  refine lv_istore_n (lv' := [(2, .int (nI q)), (0, .ref a0), (1, .int (nI q))]) hx hb dX0_lineEnd_1 rfl hl (by decide) rfl (fun ls hl => ?_)
  exact k_lineEnd_2 hx hb hr hml hown hts hlocks hK hP hn (fun r => r = nI (lnE T (Z 2) q)) (Z 2 - q + 1) q (by omega) hq rfl _ (lv_sub hl [1, 0] rfl)
set_option maxHeartbeats 4000000 in
set_option maxRecDepth 100000 in
theorem k_nameEnd_2 {p : Program} {l : Launch} {e : Env} {s : State} {m : MethodId} {args : Array Value} {below : List Frame} {meth : Method} {c : Code} (hx : p.tables.exec = Jvm.exec) (hb : c.code = cX0_nameEnd) (hr : meth.sig.returnType = (some .int)) (hml : c.maxLocals = 3) (hown : s.vm.findClass RX0 = some m.cls) (hts : ∀ w ∈ bw, w.before args s = true) (hlocks : meth.locks = false) {dC : Nat → ClassId} {dI : Nat → Nat → Nat} {cA : ClassId} {a0 a1 a2 : Nat} {Z : Nat → Nat} {T K : Nat → Int64} (hK : va_K (dC, dI) vwCl [(cA, .long)] s) (hP : va_P (dC, dI) vwCl (lmW cA a0 a1 a2 (Z, T, K)) s.heap)  (hn : Z 2 ≤ 32768) (P : Int32 → Prop) : ∀ (k : Nat) (q : Nat), Z 2 - q < k → q < 2 ^ 30 - 1 → P (nI (nmE T (Z 2) q)) → ∀ ls, lv_has ls 3 [(0, .ref a0), (2, .int (nI q))] → W p l e (headSpec wX0_nameEnd ({ frames := 2, cells := 0, slots := 0, locals := 44 })).room s m args below meth c s.heap [] 0 0 (MQ below (vp_Si P) args s 0 0 (fun _ => False)) (F0 m 2 ls []) := by
  intro k
  induction k with
  | zero => intro q hk; exact absurd hk (by omega)
  | succ k ih =>
    intro q hk hq hQ ls hl
    refine lv_iload_n hx hb dX0_nameEnd_2 rfl (lv_at hl 1 rfl) ?_
    refine lv_aload_n hx hb dX0_nameEnd_3 rfl (lv_at hl 0 rfl) ?_
    refine va_get (D := (dC, dI)) (ci := 0) (v := .int (nI (Z 2))) (C := RX0) (T := TX0) (N := 16) hx hb hts inX0 hown hK hP 0 rfl rfl 2 (by decide) (hts _ fl_X0_19) (fun _ h9 => h9) rfl dX0_nameEnd_4 ?_
    refine lv_icmp_ge (tgt := 43) hx hb dX0_nameEnd_7 (by decide) (fun c_1 => ?_) (fun c_1 => ?_)
    · have c_1 := (nI_leI (a := Z 2) (b := q) (by omega) (by omega)).mp c_1
      refine lv_iload_n hx hb dX0_nameEnd_43 rfl (lv_at hl 1 rfl) ?_
      exact W.iret (v := nI q) hx hb hr (fun t ht hW => ⟨_, rfl, (by rw [nmE, if_neg (fun z => by have := z.1; omega)] at hQ; exact hQ), ht⟩) (fun q h => by cases h) dX0_nameEnd_44
    · have c_1 := mt (nI_leI (a := Z 2) (b := q) (by omega) (by omega)).mpr c_1
      refine lv_aload_n hx hb dX0_nameEnd_10 rfl (lv_at hl 0 rfl) ?_
      refine lv_iload_n hx hb dX0_nameEnd_11 rfl (lv_at hl 1 rfl) ?_
      refine vp_callSi (va_Run.run (va_runV (As := [.int (nI q)]) (rest := []) ⟨hx, hb, hml, hown, hts⟩ (c_byteAt l dC dI cA a0 a1 a2 Z T K q (show Z 2 ≤ 32768 by omega) (show q < 2 ^ 31 by omega)) (cwV 1 hts (gV (fun _ h => h) ml_X0_28 im_X0_byteAt se_X0_byteAt ini_X0 co_X0_byteAt) rfl rfl rfl pd_X0_byteAt ⟨Nat.le_of_ble_eq_true rfl, Nat.le_of_ble_eq_true rfl⟩) (lm_preR hK hP) rfl rfl hl.1 rfl (lv_room (Nat.le_of_ble_eq_true rfl)) dX0_nameEnd_12 ⟨Nat.zero_le _, Nat.zero_le _⟩)) (fun r_2 (e_3 : r_2 = bI (gb T (Z 2) q)) => ?_)
      subst e_3
      have := gb_in T (Z 2) q
      refine vp_callSi (va_Run.run (va_runS (As := [.int (bI (gb T (Z 2) q))]) (rest := []) ⟨hx, hb, hml, hown, hts⟩ (c_isLetter l (gb T (Z 2) q)) (cwS 1 hts (gS (fun _ h => h) ml_X0_133 sm_X0_isLetter ini_X0 co_X0_isLetter) rfl rfl rfl pd_X0_isLetter ⟨Nat.le_of_ble_eq_true rfl, Nat.le_of_ble_eq_true rfl⟩) st_pre rfl rfl hl.1 rfl (lv_room (Nat.le_of_ble_eq_true rfl)) dX0_nameEnd_15 ⟨Nat.zero_le _, Nat.zero_le _⟩)) (fun r_4 (e_5 : r_4 = b2i (isL (gb T (Z 2) q))) => ?_)
      subst e_5
      refine lv_if_ne (tgt := 32) hx hb dX0_nameEnd_18 (by decide) (fun c_6 => ?_) (fun c_6 => ?_)
      · have c_6 := mt (b2i_z (isL (gb T (Z 2) q))).mpr c_6
        refine lv_aload_n hx hb dX0_nameEnd_32 rfl (lv_at hl 0 rfl) ?_
        refine lv_iload_n hx hb dX0_nameEnd_33 rfl (lv_at hl 1 rfl) ?_
        refine lv_iconst (v := nI 1) hx hb dX0_nameEnd_34 (by decide) ?_
        refine lv_iadd hx hb dX0_nameEnd_35 ?_
        refine lv_topi (fun x_7 e_8 => ?_)
        obtain rfl : x_7 = nI (q + 1) := e_8.trans (nI_add q 1)
        refine vp_callSi (va_Run.run (va_runV (As := [.int (nI (q + 1))]) (rest := []) ⟨hx, hb, hml, hown, hts⟩ (c_leftFrom l dC dI cA a0 a1 a2 Z T K (q + 1) (show Z 2 ≤ 32768 by omega) (show q + 1 < 2 ^ 30 by omega)) (cwV 1 hts (gV (fun _ h => h) ml_X0_42 im_X0_leftFrom se_X0_leftFrom ini_X0 co_X0_leftFrom) rfl rfl rfl pd_X0_leftFrom ⟨Nat.le_of_ble_eq_true rfl, Nat.le_of_ble_eq_true rfl⟩) (lm_preR hK hP) rfl rfl hl.1 rfl (lv_room (Nat.le_of_ble_eq_true rfl)) dX0_nameEnd_36 ⟨Nat.zero_le _, Nat.zero_le _⟩)) (fun r_9 (e_10 : r_9 = nI (lf T (Z 2) (q + 1))) => ?_)
        subst e_10
        have := lf_b T (Z 2) (q + 1)
        refine lv_istore_n (lv' := [(2, .int (nI (lf T (Z 2) (q + 1)))), (0, .ref a0)]) hx hb dX0_nameEnd_39 rfl hl (by decide) rfl (fun ls hl => ?_)
        refine lv_goto (tgt := 2) hx hb dX0_nameEnd_40 (by decide) ?_
        exact ih (lf T (Z 2) (q + 1)) (by omega) (by omega) (by rw [nmE, if_pos ⟨by omega, Or.inl (by simpa using c_6)⟩] at hQ; exact hQ) _ (lv_sub hl [1, 0] rfl)
      · have c_6 := (b2i_z (isL (gb T (Z 2) q))).mp c_6
        refine lv_aload_n hx hb dX0_nameEnd_21 rfl (lv_at hl 0 rfl) ?_
        refine lv_iload_n hx hb dX0_nameEnd_22 rfl (lv_at hl 1 rfl) ?_
        refine vp_callSi (va_Run.run (va_runV (As := [.int (nI q)]) (rest := []) ⟨hx, hb, hml, hown, hts⟩ (c_byteAt l dC dI cA a0 a1 a2 Z T K q (show Z 2 ≤ 32768 by omega) (show q < 2 ^ 31 by omega)) (cwV 1 hts (gV (fun _ h => h) ml_X0_28 im_X0_byteAt se_X0_byteAt ini_X0 co_X0_byteAt) rfl rfl rfl pd_X0_byteAt ⟨Nat.le_of_ble_eq_true rfl, Nat.le_of_ble_eq_true rfl⟩) (lm_preR hK hP) rfl rfl hl.1 rfl (lv_room (Nat.le_of_ble_eq_true rfl)) dX0_nameEnd_23 ⟨Nat.zero_le _, Nat.zero_le _⟩)) (fun r_11 (e_12 : r_11 = bI (gb T (Z 2) q)) => ?_)
        subst e_12
        have := gb_in T (Z 2) q
        refine vp_callSi (va_Run.run (va_runS (As := [.int (bI (gb T (Z 2) q))]) (rest := []) ⟨hx, hb, hml, hown, hts⟩ (c_isDigit l (gb T (Z 2) q)) (cwS 1 hts (gS (fun _ h => h) ml_X0_142 sm_X0_isDigit ini_X0 co_X0_isDigit) rfl rfl rfl pd_X0_isDigit ⟨Nat.le_of_ble_eq_true rfl, Nat.le_of_ble_eq_true rfl⟩) st_pre rfl rfl hl.1 rfl (lv_room (Nat.le_of_ble_eq_true rfl)) dX0_nameEnd_26 ⟨Nat.zero_le _, Nat.zero_le _⟩)) (fun r_13 (e_14 : r_13 = b2i (isD (gb T (Z 2) q))) => ?_)
        subst e_14
        refine lv_if_eq (tgt := 43) hx hb dX0_nameEnd_29 (by decide) (fun c_15 => ?_) (fun c_15 => ?_)
        · have c_15 := (b2i_z (isD (gb T (Z 2) q))).mp c_15
          refine lv_iload_n hx hb dX0_nameEnd_43 rfl (lv_at hl 1 rfl) ?_
          exact W.iret (v := nI q) hx hb hr (fun t ht hW => ⟨_, rfl, (by rw [nmE, if_neg (fun z => by rcases z.2 with h | h; exact absurd h (by rw [c_6]; decide); exact absurd h (by rw [c_15]; decide))] at hQ; exact hQ), ht⟩) (fun q h => by cases h) dX0_nameEnd_44
        · have c_15 := mt (b2i_z (isD (gb T (Z 2) q))).mpr c_15
          refine lv_aload_n hx hb dX0_nameEnd_32 rfl (lv_at hl 0 rfl) ?_
          refine lv_iload_n hx hb dX0_nameEnd_33 rfl (lv_at hl 1 rfl) ?_
          refine lv_iconst (v := nI 1) hx hb dX0_nameEnd_34 (by decide) ?_
          refine lv_iadd hx hb dX0_nameEnd_35 ?_
          refine lv_topi (fun x_16 e_17 => ?_)
          obtain rfl : x_16 = nI (q + 1) := e_17.trans (nI_add q 1)
          refine vp_callSi (va_Run.run (va_runV (As := [.int (nI (q + 1))]) (rest := []) ⟨hx, hb, hml, hown, hts⟩ (c_leftFrom l dC dI cA a0 a1 a2 Z T K (q + 1) (show Z 2 ≤ 32768 by omega) (show q + 1 < 2 ^ 30 by omega)) (cwV 1 hts (gV (fun _ h => h) ml_X0_42 im_X0_leftFrom se_X0_leftFrom ini_X0 co_X0_leftFrom) rfl rfl rfl pd_X0_leftFrom ⟨Nat.le_of_ble_eq_true rfl, Nat.le_of_ble_eq_true rfl⟩) (lm_preR hK hP) rfl rfl hl.1 rfl (lv_room (Nat.le_of_ble_eq_true rfl)) dX0_nameEnd_36 ⟨Nat.zero_le _, Nat.zero_le _⟩)) (fun r_18 (e_19 : r_18 = nI (lf T (Z 2) (q + 1))) => ?_)
          subst e_19
          have := lf_b T (Z 2) (q + 1)
          refine lv_istore_n (lv' := [(2, .int (nI (lf T (Z 2) (q + 1)))), (0, .ref a0)]) hx hb dX0_nameEnd_39 rfl hl (by decide) rfl (fun ls hl => ?_)
          refine lv_goto (tgt := 2) hx hb dX0_nameEnd_40 (by decide) ?_
          exact ih (lf T (Z 2) (q + 1)) (by omega) (by omega) (by rw [nmE, if_pos ⟨by omega, Or.inr (by simpa using c_15)⟩] at hQ; exact hQ) _ (lv_sub hl [1, 0] rfl)
set_option maxHeartbeats 4000000 in
set_option maxRecDepth 100000 in
theorem c_nameEnd (l : Launch) (dC : Nat → ClassId) (dI : Nat → Nat → Nat) (cA : ClassId) (a0 a1 a2 : Nat) (Z : Nat → Nat) (T K : Nat → Int64) (q : Nat) (hn : Z 2 ≤ 32768) (hq : q < 2 ^ 30 - 1) : Met l yX0_nameEnd wX0_nameEnd ({ frames := 2, cells := 0, slots := 0, locals := 44 }) (va_Pc [.ref a0, .int (nI q)] (lmR dC dI cA a0 a1 a2 (Z, T, K))) (vp_Si (fun r => r = nI (nmE T (Z 2) q))) 0 0 (fun _ => False) := by
  refine Met.ofW (cc := cX0_nameEnd) (maxL := 3) (ret := (some .int)) (by decide) rfl ?_
  intro p e s m args below meth c s₁ B hml hv
  obtain ⟨rfl, hP, hK⟩ := hv
  have hx := B.exec
  have hb := B.bytes
  have hr := B.returns
  have hts : ∀ w ∈ bw, w.before _ s = true := fun w h => atoms_spec (ws := wX0_nameEnd) B.pre w (bc w h)
  have hown : s.vm.findClass RX0 = some m.cls := findClass_of_methodNamed B.named
  have hlocks := B.notSynchronized
  have hl := lv_entry ([.ref a0, .int (nI q)]) (n := 3) (Nat.le_of_ble_eq_true rfl)
  rw [lg_entry_eq]
  generalize (lg_sl ([.ref a0, .int (nI q)]) ++ List.replicate (3 - (lg_sl ([.ref a0, .int (nI q)])).length) Slot.unset).toArray = ls at hl ⊢
  have hl : lv_has ls 3 [(0, .ref a0), (1, .int (nI q))] := hl
  refine lv_iload_n hx hb dX0_nameEnd_0 rfl (lv_at hl 1 rfl) ?_
  refine lv_istore_n (lv' := [(2, .int (nI q)), (0, .ref a0), (1, .int (nI q))]) hx hb dX0_nameEnd_1 rfl hl (by decide) rfl (fun ls hl => ?_)
  exact k_nameEnd_2 hx hb hr hml hown hts hlocks hK hP hn (fun r => r = nI (nmE T (Z 2) q)) (Z 2 - q + 1) q (by omega) hq rfl _ (lv_sub hl [1, 0] rfl)
set_option maxHeartbeats 4000000 in
set_option maxRecDepth 100000 in
theorem k_numberEnd_5 {p : Program} {l : Launch} {e : Env} {s : State} {m : MethodId} {args : Array Value} {below : List Frame} {meth : Method} {c : Code} (hx : p.tables.exec = Jvm.exec) (hb : c.code = cX0_numberEnd) (hr : meth.sig.returnType = (some .int)) (hml : c.maxLocals = 5) (hown : s.vm.findClass RX0 = some m.cls) (hts : ∀ w ∈ bw, w.before args s = true) (hlocks : meth.locks = false) {dC : Nat → ClassId} {dI : Nat → Nat → Nat} {cA : ClassId} {a0 a1 a2 : Nat} {Z : Nat → Nat} {T K : Nat → Int64} (hK : va_K (dC, dI) vwCl [(cA, .long)] s) (hP : va_P (dC, dI) vwCl (lmW cA a0 a1 a2 (Z, T, K)) s.heap)  (hn : Z 2 ≤ 32768) (P : Int32 → Prop) : ∀ (k : Nat) (q : Nat) (y : Nat), Z 2 - q < k → q < 2 ^ 30 - 1 → P (nI (nuE T (Z 2) q y)) → ∀ ls, lv_has ls 5 [(0, .ref a0), (3, .int (nI q)), (4, .int (bI y))] → W p l e (headSpec wX0_numberEnd ({ frames := 2, cells := 0, slots := 0, locals := 44 })).room s m args below meth c s.heap [] 0 0 (MQ below (vp_Si P) args s 0 0 (fun _ => False)) (F0 m 5 ls []) := by
  intro k
  induction k with
  | zero => intro q y hk; exact absurd hk (by omega)
  | succ k ih =>
    intro q y hk hq hQ ls hl
    refine lv_iload_n hx hb dX0_numberEnd_5 rfl (lv_at hl 1 rfl) ?_
    refine lv_aload_n hx hb dX0_numberEnd_6 rfl (lv_at hl 0 rfl) ?_
    refine va_get (D := (dC, dI)) (ci := 0) (v := .int (nI (Z 2))) (C := RX0) (T := TX0) (N := 16) hx hb hts inX0 hown hK hP 0 rfl rfl 2 (by decide) (hts _ fl_X0_19) (fun _ h9 => h9) rfl dX0_numberEnd_7 ?_
    refine lv_icmp_ge (tgt := 44) hx hb dX0_numberEnd_10 (by decide) (fun c_1 => ?_) (fun c_1 => ?_)
    · have c_1 := (nI_leI (a := Z 2) (b := q) (by omega) (by omega)).mp c_1
      refine lv_iload_n hx hb dX0_numberEnd_44 rfl (lv_at hl 1 rfl) ?_
      exact W.iret (v := nI q) hx hb hr (fun t ht hW => ⟨_, rfl, (by rw [nuE, if_neg (fun z => by have := z.1; omega)] at hQ; exact hQ), ht⟩) (fun q h => by cases h) dX0_numberEnd_45
    · have c_1 := mt (nI_leI (a := Z 2) (b := q) (by omega) (by omega)).mpr c_1
      refine lv_aload_n hx hb dX0_numberEnd_13 rfl (lv_at hl 0 rfl) ?_
      refine lv_iload_n hx hb dX0_numberEnd_14 rfl (lv_at hl 1 rfl) ?_
      refine vp_callSi (va_Run.run (va_runV (As := [.int (nI q)]) (rest := []) ⟨hx, hb, hml, hown, hts⟩ (c_byteAt l dC dI cA a0 a1 a2 Z T K q (show Z 2 ≤ 32768 by omega) (show q < 2 ^ 31 by omega)) (cwV 1 hts (gV (fun _ h => h) ml_X0_28 im_X0_byteAt se_X0_byteAt ini_X0 co_X0_byteAt) rfl rfl rfl pd_X0_byteAt ⟨Nat.le_of_ble_eq_true rfl, Nat.le_of_ble_eq_true rfl⟩) (lm_preR hK hP) rfl rfl hl.1 rfl (lv_room (Nat.le_of_ble_eq_true rfl)) dX0_numberEnd_15 ⟨Nat.zero_le _, Nat.zero_le _⟩)) (fun r_2 (e_3 : r_2 = bI (gb T (Z 2) q)) => ?_)
      subst e_3
      have := gb_in T (Z 2) q
      refine lv_iload hx hb dX0_numberEnd_18 (lv_at hl 2 rfl) ?_
      refine vp_callSi (va_Run.run (va_runS (As := [.int (bI (gb T (Z 2) q)), .int (bI y)]) (rest := []) ⟨hx, hb, hml, hown, hts⟩ (c_goesOnNumber l (gb T (Z 2) q) y) (cwS 2 hts (gS (fun _ h => h) ml_X0_171 sm_X0_goesOnNumber ini_X0 co_X0_goesOnNumber) rfl rfl rfl pd_X0_goesOnNumber ⟨Nat.le_of_ble_eq_true rfl, Nat.le_of_ble_eq_true rfl⟩) st_pre rfl rfl hl.1 rfl (lv_room (Nat.le_of_ble_eq_true rfl)) dX0_numberEnd_20 ⟨Nat.zero_le _, Nat.zero_le _⟩)) (fun r_4 (e_5 : r_4 = b2i (goN (gb T (Z 2) q) y)) => ?_)
      subst e_5
      refine lv_if_eq (tgt := 44) hx hb dX0_numberEnd_23 (by decide) (fun c_6 => ?_) (fun c_6 => ?_)
      · have c_6 := (b2i_z (goN (gb T (Z 2) q) y)).mp c_6
        refine lv_iload_n hx hb dX0_numberEnd_44 rfl (lv_at hl 1 rfl) ?_
        exact W.iret (v := nI q) hx hb hr (fun t ht hW => ⟨_, rfl, (by rw [nuE, if_neg (fun z => absurd z.2 (by rw [c_6]; decide))] at hQ; exact hQ), ht⟩) (fun q h => by cases h) dX0_numberEnd_45
      · have c_6 := mt (b2i_z (goN (gb T (Z 2) q) y)).mpr c_6
        refine lv_aload_n hx hb dX0_numberEnd_26 rfl (lv_at hl 0 rfl) ?_
        refine lv_iload_n hx hb dX0_numberEnd_27 rfl (lv_at hl 1 rfl) ?_
        refine vp_callSi (va_Run.run (va_runV (As := [.int (nI q)]) (rest := []) ⟨hx, hb, hml, hown, hts⟩ (c_byteAt l dC dI cA a0 a1 a2 Z T K q (show Z 2 ≤ 32768 by omega) (show q < 2 ^ 31 by omega)) (cwV 1 hts (gV (fun _ h => h) ml_X0_28 im_X0_byteAt se_X0_byteAt ini_X0 co_X0_byteAt) rfl rfl rfl pd_X0_byteAt ⟨Nat.le_of_ble_eq_true rfl, Nat.le_of_ble_eq_true rfl⟩) (lm_preR hK hP) rfl rfl hl.1 rfl (lv_room (Nat.le_of_ble_eq_true rfl)) dX0_numberEnd_28 ⟨Nat.zero_le _, Nat.zero_le _⟩)) (fun r_7 (e_8 : r_7 = bI (gb T (Z 2) q)) => ?_)
        subst e_8
        have := gb_in T (Z 2) q
        refine lv_istore (lv' := [(4, .int (bI (gb T (Z 2) q))), (0, .ref a0), (3, .int (nI q))]) hx hb dX0_numberEnd_31 hl (by decide) rfl (fun ls hl => ?_)
        refine lv_aload_n hx hb dX0_numberEnd_33 rfl (lv_at hl 1 rfl) ?_
        refine lv_iload_n hx hb dX0_numberEnd_34 rfl (lv_at hl 2 rfl) ?_
        refine lv_iconst (v := nI 1) hx hb dX0_numberEnd_35 (by decide) ?_
        refine lv_iadd hx hb dX0_numberEnd_36 ?_
        refine lv_topi (fun x_9 e_10 => ?_)
        obtain rfl : x_9 = nI (q + 1) := e_10.trans (nI_add q 1)
        refine vp_callSi (va_Run.run (va_runV (As := [.int (nI (q + 1))]) (rest := []) ⟨hx, hb, hml, hown, hts⟩ (c_leftFrom l dC dI cA a0 a1 a2 Z T K (q + 1) (show Z 2 ≤ 32768 by omega) (show q + 1 < 2 ^ 30 by omega)) (cwV 1 hts (gV (fun _ h => h) ml_X0_42 im_X0_leftFrom se_X0_leftFrom ini_X0 co_X0_leftFrom) rfl rfl rfl pd_X0_leftFrom ⟨Nat.le_of_ble_eq_true rfl, Nat.le_of_ble_eq_true rfl⟩) (lm_preR hK hP) rfl rfl hl.1 rfl (lv_room (Nat.le_of_ble_eq_true rfl)) dX0_numberEnd_37 ⟨Nat.zero_le _, Nat.zero_le _⟩)) (fun r_11 (e_12 : r_11 = nI (lf T (Z 2) (q + 1))) => ?_)
        subst e_12
        have := lf_b T (Z 2) (q + 1)
        refine lv_istore_n (lv' := [(3, .int (nI (lf T (Z 2) (q + 1)))), (4, .int (bI (gb T (Z 2) q))), (0, .ref a0)]) hx hb dX0_numberEnd_40 rfl hl (by decide) rfl (fun ls hl => ?_)
        refine lv_goto (tgt := 5) hx hb dX0_numberEnd_41 (by decide) ?_
        exact ih (lf T (Z 2) (q + 1)) (gb T (Z 2) q) (by omega) (by omega) (by rw [nuE, if_pos ⟨by omega, by simpa using c_6⟩] at hQ; exact hQ) _ (lv_sub hl [2, 0, 1] rfl)
set_option maxHeartbeats 4000000 in
set_option maxRecDepth 100000 in
theorem c_numberEnd (l : Launch) (dC : Nat → ClassId) (dI : Nat → Nat → Nat) (cA : ClassId) (a0 a1 a2 : Nat) (Z : Nat → Nat) (T K : Nat → Int64) (q : Nat) (y : Nat) (hn : Z 2 ≤ 32768) (hq : q < 2 ^ 30 - 1) : Met l yX0_numberEnd wX0_numberEnd ({ frames := 2, cells := 0, slots := 0, locals := 44 }) (va_Pc [.ref a0, .int (nI q), .int (bI y)] (lmR dC dI cA a0 a1 a2 (Z, T, K))) (vp_Si (fun r => r = nI (nuE T (Z 2) q y))) 0 0 (fun _ => False) := by
  refine Met.ofW (cc := cX0_numberEnd) (maxL := 5) (ret := (some .int)) (by decide) rfl ?_
  intro p e s m args below meth c s₁ B hml hv
  obtain ⟨rfl, hP, hK⟩ := hv
  have hx := B.exec
  have hb := B.bytes
  have hr := B.returns
  have hts : ∀ w ∈ bw, w.before _ s = true := fun w h => atoms_spec (ws := wX0_numberEnd) B.pre w (bc w h)
  have hown : s.vm.findClass RX0 = some m.cls := findClass_of_methodNamed B.named
  have hlocks := B.notSynchronized
  have hl := lv_entry ([.ref a0, .int (nI q), .int (bI y)]) (n := 5) (Nat.le_of_ble_eq_true rfl)
  rw [lg_entry_eq]
  generalize (lg_sl ([.ref a0, .int (nI q), .int (bI y)]) ++ List.replicate (5 - (lg_sl ([.ref a0, .int (nI q), .int (bI y)])).length) Slot.unset).toArray = ls at hl ⊢
  have hl : lv_has ls 5 [(0, .ref a0), (1, .int (nI q)), (2, .int (bI y))] := hl
  refine lv_iload_n hx hb dX0_numberEnd_0 rfl (lv_at hl 1 rfl) ?_
  refine lv_istore_n (lv' := [(3, .int (nI q)), (0, .ref a0), (1, .int (nI q)), (2, .int (bI y))]) hx hb dX0_numberEnd_1 rfl hl (by decide) rfl (fun ls hl => ?_)
  refine lv_iload_n hx hb dX0_numberEnd_2 rfl (lv_at hl 3 rfl) ?_
  refine lv_istore (lv' := [(4, .int (bI y)), (3, .int (nI q)), (0, .ref a0), (1, .int (nI q)), (2, .int (bI y))]) hx hb dX0_numberEnd_3 hl (by decide) rfl (fun ls hl => ?_)
  exact k_numberEnd_5 hx hb hr hml hown hts hlocks hK hP hn (fun r => r = nI (nuE T (Z 2) q y)) (Z 2 - q + 1) q y (by omega) hq rfl _ (lv_sub hl [2, 1, 0] rfl)
set_option maxHeartbeats 4000000 in
set_option maxRecDepth 100000 in
theorem k_commentEnd_4 {p : Program} {l : Launch} {e : Env} {s : State} {m : MethodId} {args : Array Value} {below : List Frame} {meth : Method} {c : Code} (hx : p.tables.exec = Jvm.exec) (hb : c.code = cX0_commentEnd) (hr : meth.sig.returnType = (some .int)) (hml : c.maxLocals = 5) (hown : s.vm.findClass RX0 = some m.cls) (hts : ∀ w ∈ bw, w.before args s = true) (hlocks : meth.locks = false) {dC : Nat → ClassId} {dI : Nat → Nat → Nat} {cA : ClassId} {a0 a1 a2 : Nat} {Z : Nat → Nat} {T K : Nat → Int64} (hK : va_K (dC, dI) vwCl [(cA, .long)] s) (hP : va_P (dC, dI) vwCl (lmW cA a0 a1 a2 (Z, T, K)) s.heap)  (hn : Z 2 ≤ 32768) (P : Int32 → Prop) : ∀ (k : Nat) (q : Nat) (b : Bool), Z 2 - q < k → q < 2 ^ 30 - 1 → P (oI (cmE T (Z 2) q b)) → ∀ ls, lv_has ls 5 [(0, .ref a0), (2, .int (nI q)), (3, .int (b2i b))] → W p l e (headSpec wX0_commentEnd ({ frames := 2, cells := 0, slots := 0, locals := 44 })).room s m args below meth c s.heap [] 0 0 (MQ below (vp_Si P) args s 0 0 (fun _ => False)) (F0 m 4 ls []) := by
  intro k
  induction k with
  | zero => intro q b hk; exact absurd hk (by omega)
  | succ k ih =>
    intro q b hk hq hQ ls hl
    refine lv_iload_n hx hb dX0_commentEnd_4 rfl (lv_at hl 1 rfl) ?_
    refine lv_aload_n hx hb dX0_commentEnd_5 rfl (lv_at hl 0 rfl) ?_
    refine va_get (D := (dC, dI)) (ci := 0) (v := .int (nI (Z 2))) (C := RX0) (T := TX0) (N := 16) hx hb hts inX0 hown hK hP 0 rfl rfl 2 (by decide) (hts _ fl_X0_19) (fun _ h9 => h9) rfl dX0_commentEnd_6 ?_
    refine lv_icmp_ge (tgt := 56) hx hb dX0_commentEnd_9 (by decide) (fun c_1 => ?_) (fun c_1 => ?_)
    · have c_1 := (nI_leI (a := Z 2) (b := q) (by omega) (by omega)).mp c_1
      refine lv_iconst (v := (-1)) hx hb dX0_commentEnd_56 (by decide) ?_
      exact W.iret (v := (-1)) hx hb hr (fun t ht hW => ⟨_, rfl, (by rw [cmE, if_neg (by omega)] at hQ; exact hQ), ht⟩) (fun q h => by cases h) dX0_commentEnd_57
    · have c_1 := mt (nI_leI (a := Z 2) (b := q) (by omega) (by omega)).mpr c_1
      refine lv_aload_n hx hb dX0_commentEnd_12 rfl (lv_at hl 0 rfl) ?_
      refine lv_iload_n hx hb dX0_commentEnd_13 rfl (lv_at hl 1 rfl) ?_
      refine vp_callSi (va_Run.run (va_runV (As := [.int (nI q)]) (rest := []) ⟨hx, hb, hml, hown, hts⟩ (c_byteAt l dC dI cA a0 a1 a2 Z T K q (show Z 2 ≤ 32768 by omega) (show q < 2 ^ 31 by omega)) (cwV 1 hts (gV (fun _ h => h) ml_X0_28 im_X0_byteAt se_X0_byteAt ini_X0 co_X0_byteAt) rfl rfl rfl pd_X0_byteAt ⟨Nat.le_of_ble_eq_true rfl, Nat.le_of_ble_eq_true rfl⟩) (lm_preR hK hP) rfl rfl hl.1 rfl (lv_room (Nat.le_of_ble_eq_true rfl)) dX0_commentEnd_14 ⟨Nat.zero_le _, Nat.zero_le _⟩)) (fun r_2 (e_3 : r_2 = bI (gb T (Z 2) q)) => ?_)
      subst e_3
      have := gb_in T (Z 2) q
      refine lv_istore (lv' := [(4, .int (bI (gb T (Z 2) q))), (0, .ref a0), (2, .int (nI q)), (3, .int (b2i b))]) hx hb dX0_commentEnd_17 hl (by decide) rfl (fun ls hl => ?_)
      refine lv_aload_n hx hb dX0_commentEnd_19 rfl (lv_at hl 1 rfl) ?_
      refine lv_iload_n hx hb dX0_commentEnd_20 rfl (lv_at hl 2 rfl) ?_
      refine lv_iconst (v := nI 1) hx hb dX0_commentEnd_21 (by decide) ?_
      refine lv_iadd hx hb dX0_commentEnd_22 ?_
      refine lv_topi (fun x_4 e_5 => ?_)
      obtain rfl : x_4 = nI (q + 1) := e_5.trans (nI_add q 1)
      refine vp_callSi (va_Run.run (va_runV (As := [.int (nI (q + 1))]) (rest := []) ⟨hx, hb, hml, hown, hts⟩ (c_leftFrom l dC dI cA a0 a1 a2 Z T K (q + 1) (show Z 2 ≤ 32768 by omega) (show q + 1 < 2 ^ 30 by omega)) (cwV 1 hts (gV (fun _ h => h) ml_X0_42 im_X0_leftFrom se_X0_leftFrom ini_X0 co_X0_leftFrom) rfl rfl rfl pd_X0_leftFrom ⟨Nat.le_of_ble_eq_true rfl, Nat.le_of_ble_eq_true rfl⟩) (lm_preR hK hP) rfl rfl hl.1 rfl (lv_room (Nat.le_of_ble_eq_true rfl)) dX0_commentEnd_23 ⟨Nat.zero_le _, Nat.zero_le _⟩)) (fun r_6 (e_7 : r_6 = nI (lf T (Z 2) (q + 1))) => ?_)
      subst e_7
      have := lf_b T (Z 2) (q + 1)
      refine lv_istore_n (lv' := [(2, .int (nI (lf T (Z 2) (q + 1)))), (4, .int (bI (gb T (Z 2) q))), (0, .ref a0), (3, .int (b2i b))]) hx hb dX0_commentEnd_26 rfl hl (by decide) rfl (fun ls hl => ?_)
      refine lv_iload_n hx hb dX0_commentEnd_27 rfl (lv_at hl 3 rfl) ?_
      refine lv_if_eq (tgt := 40) hx hb dX0_commentEnd_28 (by decide) (fun c_8 => ?_) (fun c_8 => ?_)
      · have c_8 := (b2i_z b).mp c_8
        refine lv_iload hx hb dX0_commentEnd_40 (lv_at hl 1 rfl) ?_
        refine lv_bipush (v := nI 42) hx hb dX0_commentEnd_42 (by decide) ?_
        refine lv_icmp_ne (tgt := 51) hx hb dX0_commentEnd_44 (by decide) (fun c_9 => ?_) (fun c_9 => ?_)
        · have c_9 := mt (bI_eqN (by omega)).mpr c_9
          refine lv_iconst (v := nI 0) hx hb dX0_commentEnd_51 (by decide) ?_
          refine lv_istore_n (lv' := [(3, .int (nI 0)), (2, .int (nI (lf T (Z 2) (q + 1)))), (4, .int (bI (gb T (Z 2) q))), (0, .ref a0)]) hx hb dX0_commentEnd_52 rfl hl (by decide) rfl (fun ls hl => ?_)
          refine lv_goto (tgt := 4) hx hb dX0_commentEnd_53 (by decide) ?_
          exact ih (lf T (Z 2) (q + 1)) false (by omega) (by omega) (by rw [cmE, if_pos (by omega), if_neg (fun z => absurd z.1 (by rw [c_8]; decide)), show decide (gb T (Z 2) q = 42) = false by simp; omega] at hQ; exact hQ) _ (lv_sub hl [3, 1, 0] rfl)
        · have c_9 := (bI_eqN (by omega)).mp c_9
          refine lv_iconst (v := nI 1) hx hb dX0_commentEnd_47 (by decide) ?_
          refine lv_goto (tgt := 52) hx hb dX0_commentEnd_48 (by decide) ?_
          refine lv_istore_n (lv' := [(3, .int (nI 1)), (2, .int (nI (lf T (Z 2) (q + 1)))), (4, .int (bI (gb T (Z 2) q))), (0, .ref a0)]) hx hb dX0_commentEnd_52 rfl hl (by decide) rfl (fun ls hl => ?_)
          refine lv_goto (tgt := 4) hx hb dX0_commentEnd_53 (by decide) ?_
          exact ih (lf T (Z 2) (q + 1)) true (by omega) (by omega) (by rw [cmE, if_pos (by omega), if_neg (fun z => absurd z.1 (by rw [c_8]; decide)), show decide (gb T (Z 2) q = 42) = true by simp; omega] at hQ; exact hQ) _ (lv_sub hl [3, 1, 0] rfl)
      · have c_8 := mt (b2i_z b).mpr c_8
        refine lv_iload hx hb dX0_commentEnd_31 (lv_at hl 1 rfl) ?_
        refine lv_bipush (v := nI 47) hx hb dX0_commentEnd_33 (by decide) ?_
        refine lv_icmp_ne (tgt := 40) hx hb dX0_commentEnd_35 (by decide) (fun c_10 => ?_) (fun c_10 => ?_)
        · have c_10 := mt (bI_eqN (by omega)).mpr c_10
          refine lv_iload hx hb dX0_commentEnd_40 (lv_at hl 1 rfl) ?_
          refine lv_bipush (v := nI 42) hx hb dX0_commentEnd_42 (by decide) ?_
          refine lv_icmp_ne (tgt := 51) hx hb dX0_commentEnd_44 (by decide) (fun c_11 => ?_) (fun c_11 => ?_)
          · have c_11 := mt (bI_eqN (by omega)).mpr c_11
            refine lv_iconst (v := nI 0) hx hb dX0_commentEnd_51 (by decide) ?_
            refine lv_istore_n (lv' := [(3, .int (nI 0)), (2, .int (nI (lf T (Z 2) (q + 1)))), (4, .int (bI (gb T (Z 2) q))), (0, .ref a0)]) hx hb dX0_commentEnd_52 rfl hl (by decide) rfl (fun ls hl => ?_)
            refine lv_goto (tgt := 4) hx hb dX0_commentEnd_53 (by decide) ?_
            exact ih (lf T (Z 2) (q + 1)) false (by omega) (by omega) (by rw [cmE, if_pos (by omega), if_neg (fun z => by have := z.2; omega), show decide (gb T (Z 2) q = 42) = false by simp; omega] at hQ; exact hQ) _ (lv_sub hl [3, 1, 0] rfl)
          · have c_11 := (bI_eqN (by omega)).mp c_11
            refine lv_iconst (v := nI 1) hx hb dX0_commentEnd_47 (by decide) ?_
            refine lv_goto (tgt := 52) hx hb dX0_commentEnd_48 (by decide) ?_
            refine lv_istore_n (lv' := [(3, .int (nI 1)), (2, .int (nI (lf T (Z 2) (q + 1)))), (4, .int (bI (gb T (Z 2) q))), (0, .ref a0)]) hx hb dX0_commentEnd_52 rfl hl (by decide) rfl (fun ls hl => ?_)
            refine lv_goto (tgt := 4) hx hb dX0_commentEnd_53 (by decide) ?_
            exact ih (lf T (Z 2) (q + 1)) true (by omega) (by omega) (by rw [cmE, if_pos (by omega), if_neg (fun z => by have := z.2; omega), show decide (gb T (Z 2) q = 42) = true by simp; omega] at hQ; exact hQ) _ (lv_sub hl [3, 1, 0] rfl)
        · have c_10 := (bI_eqN (by omega)).mp c_10
          refine lv_iload_n hx hb dX0_commentEnd_38 rfl (lv_at hl 0 rfl) ?_
          exact W.iret (v := nI (lf T (Z 2) (q + 1))) hx hb hr (fun t ht hW => ⟨_, rfl, (by rw [cmE, if_pos (by omega), if_pos ⟨by simpa using c_8, by omega⟩] at hQ; exact hQ), ht⟩) (fun q h => by cases h) dX0_commentEnd_39
set_option maxHeartbeats 4000000 in
set_option maxRecDepth 100000 in
theorem c_commentEnd (l : Launch) (dC : Nat → ClassId) (dI : Nat → Nat → Nat) (cA : ClassId) (a0 a1 a2 : Nat) (Z : Nat → Nat) (T K : Nat → Int64) (q : Nat) (hn : Z 2 ≤ 32768) (hq : q < 2 ^ 30 - 1) : Met l yX0_commentEnd wX0_commentEnd ({ frames := 2, cells := 0, slots := 0, locals := 44 }) (va_Pc [.ref a0, .int (nI q)] (lmR dC dI cA a0 a1 a2 (Z, T, K))) (vp_Si (fun r => r = oI (cmE T (Z 2) q false))) 0 0 (fun _ => False) := by
  refine Met.ofW (cc := cX0_commentEnd) (maxL := 5) (ret := (some .int)) (by decide) rfl ?_
  intro p e s m args below meth c s₁ B hml hv
  obtain ⟨rfl, hP, hK⟩ := hv
  have hx := B.exec
  have hb := B.bytes
  have hr := B.returns
  have hts : ∀ w ∈ bw, w.before _ s = true := fun w h => atoms_spec (ws := wX0_commentEnd) B.pre w (bc w h)
  have hown : s.vm.findClass RX0 = some m.cls := findClass_of_methodNamed B.named
  have hlocks := B.notSynchronized
  have hl := lv_entry ([.ref a0, .int (nI q)]) (n := 5) (Nat.le_of_ble_eq_true rfl)
  rw [lg_entry_eq]
  generalize (lg_sl ([.ref a0, .int (nI q)]) ++ List.replicate (5 - (lg_sl ([.ref a0, .int (nI q)])).length) Slot.unset).toArray = ls at hl ⊢
  have hl : lv_has ls 5 [(0, .ref a0), (1, .int (nI q))] := hl
  refine lv_iload_n hx hb dX0_commentEnd_0 rfl (lv_at hl 1 rfl) ?_
  refine lv_istore_n (lv' := [(2, .int (nI q)), (0, .ref a0), (1, .int (nI q))]) hx hb dX0_commentEnd_1 rfl hl (by decide) rfl (fun ls hl => ?_)
  refine lv_iconst (v := nI 0) hx hb dX0_commentEnd_2 (by decide) ?_
  refine lv_istore_n (lv' := [(3, .int (nI 0)), (2, .int (nI q)), (0, .ref a0), (1, .int (nI q))]) hx hb dX0_commentEnd_3 rfl hl (by decide) rfl (fun ls hl => ?_)
  exact k_commentEnd_4 hx hb hr hml hown hts hlocks hK hP hn (fun r => r = oI (cmE T (Z 2) q false)) (Z 2 - q + 1) q false (by omega) hq rfl _ (lv_sub hl [2, 1, 0] rfl)
end
section
set_option maxHeartbeats 4000000 in
set_option maxRecDepth 100000 in
theorem c_restart (l : Launch) (dC : Nat → ClassId) (dI : Nat → Nat → Nat) (cA : ClassId) (a0 a1 a2 : Nat) (sz : Nat) (Z : Nat → Nat) (T K : Nat → Int64)  : Met l yX0_restart wX0_restart ({ frames := 0, cells := 0, slots := 0, locals := 0 }) (va_Pc [.ref a0] (lmP dC dI cA a0 a1 a2 sz (Z, T, K))) (va_Qv (fun (u : lmU) => u = ((zu (zu (zu (zu (zu (zu (zu Z 3 0) 4 1) 5 0) 6 0) 7 0) 8 0) 9 0), T, K)) (lmB dC dI cA a0 a1 a2 (va_A (lmW cA a0 a1 a2 (Z, T, K)) sz)) (va_A (lmW cA a0 a1 a2 (Z, T, K)) sz)) 0 0 (va_A (lmW cA a0 a1 a2 (Z, T, K)) sz) := by
  refine Met.ofW (cc := cX0_restart) (maxL := 1) (ret := none) (by decide) rfl ?_
  intro p e s m args below meth c s₁ B hml hv
  obtain ⟨rfl, hsz, hP, hK, hD0⟩ := hv
  have hx := B.exec
  have hb := B.bytes
  have hr := B.returns
  have hts : ∀ w ∈ bw, w.before _ s = true := fun w h => atoms_spec (ws := wX0_restart) B.pre w (bc w h)
  have hown : s.vm.findClass RX0 = some m.cls := findClass_of_methodNamed B.named
  have hlocks := B.notSynchronized
  subst hsz
  have hD := hD0.self (sz := s.heap.size)
  generalize hAe : va_A (lmW cA a0 a1 a2 (Z, T, K)) s.heap.size = A at hD ⊢
  have hA : ∀ q : Nat, s.heap.size ≤ q → A q := fun q h => by rw [← hAe]; exact Or.inr h
  have hS : va_S A s.heap s.heap [] := va_S.rf
  have hl := lv_entry ([.ref a0]) (n := 1) (Nat.le_of_ble_eq_true rfl)
  rw [lg_entry_eq]
  generalize (lg_sl ([.ref a0]) ++ List.replicate (1 - (lg_sl ([.ref a0])).length) Slot.unset).toArray = ls at hl ⊢
  have hl : lv_has ls 1 [(0, .ref a0)] := hl
  refine lv_aload_n hx hb dX0_restart_0 rfl (lv_at hl 0 rfl) ?_
  refine lv_iconst (v := nI 0) hx hb dX0_restart_1 (by decide) ?_
  refine va_put (D := (dC, dI)) (ci := 0) (v := .int (nI 0)) (ty := .int) (C := RX0) (T := TX0) (N := 16) hx hb hts inX0 tyX0 okX0 nmX0 hown hK hP hD hS 0 rfl rfl 3 (by decide) (hts _ fl_X0_39) (fun _ h9 => h9) rfl (by decide +kernel) rfl rfl (Nat.le_of_ble_eq_true rfl) dX0_restart_2 (fun H locs hP hD hS => ?_)
  have hP : va_P (dC, dI) vwCl (lmW cA a0 a1 a2 ((zu Z 3 0), T, K)) H := hP
  have hD : va_D A (lmW cA a0 a1 a2 ((zu Z 3 0), T, K)) := hD
  refine lv_aload_n hx hb dX0_restart_5 rfl (lv_at hl 0 rfl) ?_
  refine lv_iconst (v := nI 1) hx hb dX0_restart_6 (by decide) ?_
  refine va_put (D := (dC, dI)) (ci := 0) (v := .int (nI 1)) (ty := .int) (C := RX0) (T := TX0) (N := 16) hx hb hts inX0 tyX0 okX0 nmX0 hown hK hP hD hS 0 rfl rfl 4 (by decide) (hts _ fl_X0_68) (fun _ h9 => h9) rfl (by decide +kernel) rfl rfl (Nat.le_of_ble_eq_true rfl) dX0_restart_7 (fun H locs hP hD hS => ?_)
  have hP : va_P (dC, dI) vwCl (lmW cA a0 a1 a2 ((zu (zu Z 3 0) 4 1), T, K)) H := hP
  have hD : va_D A (lmW cA a0 a1 a2 ((zu (zu Z 3 0) 4 1), T, K)) := hD
  refine lv_aload_n hx hb dX0_restart_10 rfl (lv_at hl 0 rfl) ?_
  refine lv_iconst (v := nI 0) hx hb dX0_restart_11 (by decide) ?_
  refine va_put (D := (dC, dI)) (ci := 0) (v := .int (nI 0)) (ty := .int) (C := RX0) (T := TX0) (N := 16) hx hb hts inX0 tyX0 okX0 nmX0 hown hK hP hD hS 0 rfl rfl 5 (by decide) (hts _ fl_X0_62) (fun _ h9 => h9) rfl (by decide +kernel) rfl rfl (Nat.le_of_ble_eq_true rfl) dX0_restart_12 (fun H locs hP hD hS => ?_)
  have hP : va_P (dC, dI) vwCl (lmW cA a0 a1 a2 ((zu (zu (zu Z 3 0) 4 1) 5 0), T, K)) H := hP
  have hD : va_D A (lmW cA a0 a1 a2 ((zu (zu (zu Z 3 0) 4 1) 5 0), T, K)) := hD
  refine lv_aload_n hx hb dX0_restart_15 rfl (lv_at hl 0 rfl) ?_
  refine lv_iconst (v := nI 0) hx hb dX0_restart_16 (by decide) ?_
  refine va_put (D := (dC, dI)) (ci := 0) (v := .int (nI 0)) (ty := .int) (C := RX0) (T := TX0) (N := 16) hx hb hts inX0 tyX0 okX0 nmX0 hown hK hP hD hS 0 rfl rfl 6 (by decide) (hts _ fl_X0_85) (fun _ h9 => h9) rfl (by decide +kernel) rfl rfl (Nat.le_of_ble_eq_true rfl) dX0_restart_17 (fun H locs hP hD hS => ?_)
  have hP : va_P (dC, dI) vwCl (lmW cA a0 a1 a2 ((zu (zu (zu (zu Z 3 0) 4 1) 5 0) 6 0), T, K)) H := hP
  have hD : va_D A (lmW cA a0 a1 a2 ((zu (zu (zu (zu Z 3 0) 4 1) 5 0) 6 0), T, K)) := hD
  refine lv_aload_n hx hb dX0_restart_20 rfl (lv_at hl 0 rfl) ?_
  refine lv_iconst (v := nI 0) hx hb dX0_restart_21 (by decide) ?_
  refine va_put (D := (dC, dI)) (ci := 0) (v := .int (nI 0)) (ty := .int) (C := RX0) (T := TX0) (N := 16) hx hb hts inX0 tyX0 okX0 nmX0 hown hK hP hD hS 0 rfl rfl 7 (by decide) (hts _ fl_X0_65) (fun _ h9 => h9) rfl (by decide +kernel) rfl rfl (Nat.le_of_ble_eq_true rfl) dX0_restart_22 (fun H locs hP hD hS => ?_)
  have hP : va_P (dC, dI) vwCl (lmW cA a0 a1 a2 ((zu (zu (zu (zu (zu Z 3 0) 4 1) 5 0) 6 0) 7 0), T, K)) H := hP
  have hD : va_D A (lmW cA a0 a1 a2 ((zu (zu (zu (zu (zu Z 3 0) 4 1) 5 0) 6 0) 7 0), T, K)) := hD
  refine lv_aload_n hx hb dX0_restart_25 rfl (lv_at hl 0 rfl) ?_
  refine lv_iconst (v := nI 0) hx hb dX0_restart_26 (by decide) ?_
  refine va_put (D := (dC, dI)) (ci := 0) (v := .int (nI 0)) (ty := .boolean) (C := RX0) (T := TX0) (N := 16) hx hb hts inX0 tyX0 okX0 nmX0 hown hK hP hD hS 0 rfl rfl 8 (by decide) (hts _ fl_X0_35) (fun _ h9 => h9) rfl (by decide +kernel) rfl rfl (Nat.le_of_ble_eq_true rfl) dX0_restart_27 (fun H locs hP hD hS => ?_)
  have hP : va_P (dC, dI) vwCl (lmW cA a0 a1 a2 ((zu (zu (zu (zu (zu (zu Z 3 0) 4 1) 5 0) 6 0) 7 0) 8 0), T, K)) H := hP
  have hD : va_D A (lmW cA a0 a1 a2 ((zu (zu (zu (zu (zu (zu Z 3 0) 4 1) 5 0) 6 0) 7 0) 8 0), T, K)) := hD
  refine lv_aload_n hx hb dX0_restart_30 rfl (lv_at hl 0 rfl) ?_
  refine lv_iconst (v := nI 0) hx hb dX0_restart_31 (by decide) ?_
  refine va_put (D := (dC, dI)) (ci := 0) (v := .int (nI 0)) (ty := .int) (C := RX0) (T := TX0) (N := 16) hx hb hts inX0 tyX0 okX0 nmX0 hown hK hP hD hS 0 rfl rfl 9 (by decide) (hts _ fl_X0_32) (fun _ h9 => h9) rfl (by decide +kernel) rfl rfl (Nat.le_of_ble_eq_true rfl) dX0_restart_32 (fun H locs hP hD hS => ?_)
  have hP : va_P (dC, dI) vwCl (lmW cA a0 a1 a2 ((zu (zu (zu (zu (zu (zu (zu Z 3 0) 4 1) 5 0) 6 0) 7 0) 8 0) 9 0), T, K)) H := hP
  have hD : va_D A (lmW cA a0 a1 a2 ((zu (zu (zu (zu (zu (zu (zu Z 3 0) 4 1) 5 0) 6 0) 7 0) 8 0) 9 0), T, K)) := hD
  exact W.vret hx hb hr (fun t ht hW => ⟨⟨((zu (zu (zu (zu (zu (zu (zu Z 3 0) 4 1) 5 0) 6 0) 7 0) 8 0) 9 0), T, K), rfl, rfl, by rw [ht]; exact hP, va_K.moved hW.alike hK, hD⟩, hS.F ht⟩) hS.2.2 dX0_restart_35
set_option maxHeartbeats 4000000 in
set_option maxRecDepth 100000 in
theorem c_openLine (l : Launch) (dC : Nat → ClassId) (dI : Nat → Nat → Nat) (cA : ClassId) (a0 a1 a2 : Nat) (sz : Nat) (Z : Nat → Nat) (T K : Nat → Int64)  : Met l yX0_openLine wX0_openLine ({ frames := 0, cells := 0, slots := 0, locals := 0 }) (va_Pc [.ref a0] (lmP dC dI cA a0 a1 a2 sz (Z, T, K))) (va_Qv (fun (u : lmU) => u = ((zu (zu (zu (zu Z 10 0) 11 1) 14 0) 15 0), T, K)) (lmB dC dI cA a0 a1 a2 (va_A (lmW cA a0 a1 a2 (Z, T, K)) sz)) (va_A (lmW cA a0 a1 a2 (Z, T, K)) sz)) 0 0 (va_A (lmW cA a0 a1 a2 (Z, T, K)) sz) := by
  refine Met.ofW (cc := cX0_openLine) (maxL := 1) (ret := none) (by decide) rfl ?_
  intro p e s m args below meth c s₁ B hml hv
  obtain ⟨rfl, hsz, hP, hK, hD0⟩ := hv
  have hx := B.exec
  have hb := B.bytes
  have hr := B.returns
  have hts : ∀ w ∈ bw, w.before _ s = true := fun w h => atoms_spec (ws := wX0_openLine) B.pre w (bc w h)
  have hown : s.vm.findClass RX0 = some m.cls := findClass_of_methodNamed B.named
  have hlocks := B.notSynchronized
  subst hsz
  have hD := hD0.self (sz := s.heap.size)
  generalize hAe : va_A (lmW cA a0 a1 a2 (Z, T, K)) s.heap.size = A at hD ⊢
  have hA : ∀ q : Nat, s.heap.size ≤ q → A q := fun q h => by rw [← hAe]; exact Or.inr h
  have hS : va_S A s.heap s.heap [] := va_S.rf
  have hl := lv_entry ([.ref a0]) (n := 1) (Nat.le_of_ble_eq_true rfl)
  rw [lg_entry_eq]
  generalize (lg_sl ([.ref a0]) ++ List.replicate (1 - (lg_sl ([.ref a0])).length) Slot.unset).toArray = ls at hl ⊢
  have hl : lv_has ls 1 [(0, .ref a0)] := hl
  refine lv_aload_n hx hb dX0_openLine_0 rfl (lv_at hl 0 rfl) ?_
  refine lv_iconst (v := nI 0) hx hb dX0_openLine_1 (by decide) ?_
  refine va_put (D := (dC, dI)) (ci := 0) (v := .int (nI 0)) (ty := .int) (C := RX0) (T := TX0) (N := 16) hx hb hts inX0 tyX0 okX0 nmX0 hown hK hP hD hS 0 rfl rfl 10 (by decide) (hts _ fl_X0_90) (fun _ h9 => h9) rfl (by decide +kernel) rfl rfl (Nat.le_of_ble_eq_true rfl) dX0_openLine_2 (fun H locs hP hD hS => ?_)
  have hP : va_P (dC, dI) vwCl (lmW cA a0 a1 a2 ((zu Z 10 0), T, K)) H := hP
  have hD : va_D A (lmW cA a0 a1 a2 ((zu Z 10 0), T, K)) := hD
  refine lv_aload_n hx hb dX0_openLine_5 rfl (lv_at hl 0 rfl) ?_
  refine lv_iconst (v := nI 1) hx hb dX0_openLine_6 (by decide) ?_
  refine va_put (D := (dC, dI)) (ci := 0) (v := .int (nI 1)) (ty := .boolean) (C := RX0) (T := TX0) (N := 16) hx hb hts inX0 tyX0 okX0 nmX0 hown hK hP hD hS 0 rfl rfl 11 (by decide) (hts _ fl_X0_93) (fun _ h9 => h9) rfl (by decide +kernel) rfl rfl (Nat.le_of_ble_eq_true rfl) dX0_openLine_7 (fun H locs hP hD hS => ?_)
  have hP : va_P (dC, dI) vwCl (lmW cA a0 a1 a2 ((zu (zu Z 10 0) 11 1), T, K)) H := hP
  have hD : va_D A (lmW cA a0 a1 a2 ((zu (zu Z 10 0) 11 1), T, K)) := hD
  refine lv_aload_n hx hb dX0_openLine_10 rfl (lv_at hl 0 rfl) ?_
  refine lv_iconst (v := nI 0) hx hb dX0_openLine_11 (by decide) ?_
  refine va_put (D := (dC, dI)) (ci := 0) (v := .int (nI 0)) (ty := .int) (C := RX0) (T := TX0) (N := 16) hx hb hts inX0 tyX0 okX0 nmX0 hown hK hP hD hS 0 rfl rfl 14 (by decide) (hts _ fl_X0_96) (fun _ h9 => h9) rfl (by decide +kernel) rfl rfl (Nat.le_of_ble_eq_true rfl) dX0_openLine_12 (fun H locs hP hD hS => ?_)
  have hP : va_P (dC, dI) vwCl (lmW cA a0 a1 a2 ((zu (zu (zu Z 10 0) 11 1) 14 0), T, K)) H := hP
  have hD : va_D A (lmW cA a0 a1 a2 ((zu (zu (zu Z 10 0) 11 1) 14 0), T, K)) := hD
  refine lv_aload_n hx hb dX0_openLine_15 rfl (lv_at hl 0 rfl) ?_
  refine lv_iconst (v := nI 0) hx hb dX0_openLine_16 (by decide) ?_
  refine va_put (D := (dC, dI)) (ci := 0) (v := .int (nI 0)) (ty := .int) (C := RX0) (T := TX0) (N := 16) hx hb hts inX0 tyX0 okX0 nmX0 hown hK hP hD hS 0 rfl rfl 15 (by decide) (hts _ fl_X0_99) (fun _ h9 => h9) rfl (by decide +kernel) rfl rfl (Nat.le_of_ble_eq_true rfl) dX0_openLine_17 (fun H locs hP hD hS => ?_)
  have hP : va_P (dC, dI) vwCl (lmW cA a0 a1 a2 ((zu (zu (zu (zu Z 10 0) 11 1) 14 0) 15 0), T, K)) H := hP
  have hD : va_D A (lmW cA a0 a1 a2 ((zu (zu (zu (zu Z 10 0) 11 1) 14 0) 15 0), T, K)) := hD
  exact W.vret hx hb hr (fun t ht hW => ⟨⟨((zu (zu (zu (zu Z 10 0) 11 1) 14 0) 15 0), T, K), rfl, rfl, by rw [ht]; exact hP, va_K.moved hW.alike hK, hD⟩, hS.F ht⟩) hS.2.2 dX0_openLine_20
set_option maxHeartbeats 4000000 in
set_option maxRecDepth 100000 in
theorem c_stopAt (l : Launch) (dC : Nat → ClassId) (dI : Nat → Nat → Nat) (cA : ClassId) (a0 a1 a2 : Nat) (sz : Nat) (Z : Nat → Nat) (T K : Nat → Int64) (b : Nat) (f : Nat) : Met l yX0_stopAt wX0_stopAt ({ frames := 0, cells := 0, slots := 0, locals := 0 }) (va_Pc [.ref a0, .int (nI b), .int (nI f)] (lmP dC dI cA a0 a1 a2 sz (Z, T, K))) (va_Qi (fun (r : Int32) (u : lmU) => r = nI f ∧ u = ((zu (zu Z 7 b) 8 1), T, K)) (lmB dC dI cA a0 a1 a2 (va_A (lmW cA a0 a1 a2 (Z, T, K)) sz)) (va_A (lmW cA a0 a1 a2 (Z, T, K)) sz)) 0 0 (va_A (lmW cA a0 a1 a2 (Z, T, K)) sz) := by
  refine Met.ofW (cc := cX0_stopAt) (maxL := 3) (ret := (some .int)) (by decide) rfl ?_
  intro p e s m args below meth c s₁ B hml hv
  obtain ⟨rfl, hsz, hP, hK, hD0⟩ := hv
  have hx := B.exec
  have hb := B.bytes
  have hr := B.returns
  have hts : ∀ w ∈ bw, w.before _ s = true := fun w h => atoms_spec (ws := wX0_stopAt) B.pre w (bc w h)
  have hown : s.vm.findClass RX0 = some m.cls := findClass_of_methodNamed B.named
  have hlocks := B.notSynchronized
  subst hsz
  have hD := hD0.self (sz := s.heap.size)
  generalize hAe : va_A (lmW cA a0 a1 a2 (Z, T, K)) s.heap.size = A at hD ⊢
  have hA : ∀ q : Nat, s.heap.size ≤ q → A q := fun q h => by rw [← hAe]; exact Or.inr h
  have hS : va_S A s.heap s.heap [] := va_S.rf
  have hl := lv_entry ([.ref a0, .int (nI b), .int (nI f)]) (n := 3) (Nat.le_of_ble_eq_true rfl)
  rw [lg_entry_eq]
  generalize (lg_sl ([.ref a0, .int (nI b), .int (nI f)]) ++ List.replicate (3 - (lg_sl ([.ref a0, .int (nI b), .int (nI f)])).length) Slot.unset).toArray = ls at hl ⊢
  have hl : lv_has ls 3 [(0, .ref a0), (1, .int (nI b)), (2, .int (nI f))] := hl
  refine lv_aload_n hx hb dX0_stopAt_0 rfl (lv_at hl 0 rfl) ?_
  refine lv_iconst (v := nI 1) hx hb dX0_stopAt_1 (by decide) ?_
  refine va_put (D := (dC, dI)) (ci := 0) (v := .int (nI 1)) (ty := .boolean) (C := RX0) (T := TX0) (N := 16) hx hb hts inX0 tyX0 okX0 nmX0 hown hK hP hD hS 0 rfl rfl 8 (by decide) (hts _ fl_X0_35) (fun _ h9 => h9) rfl (by decide +kernel) rfl rfl (Nat.le_of_ble_eq_true rfl) dX0_stopAt_2 (fun H locs hP hD hS => ?_)
  have hP : va_P (dC, dI) vwCl (lmW cA a0 a1 a2 ((zu Z 8 1), T, K)) H := hP
  have hD : va_D A (lmW cA a0 a1 a2 ((zu Z 8 1), T, K)) := hD
  refine lv_aload_n hx hb dX0_stopAt_5 rfl (lv_at hl 0 rfl) ?_
  refine lv_iload_n hx hb dX0_stopAt_6 rfl (lv_at hl 1 rfl) ?_
  refine va_put (D := (dC, dI)) (ci := 0) (v := .int (nI b)) (ty := .int) (C := RX0) (T := TX0) (N := 16) hx hb hts inX0 tyX0 okX0 nmX0 hown hK hP hD hS 0 rfl rfl 7 (by decide) (hts _ fl_X0_65) (fun _ h9 => h9) rfl (by decide +kernel) rfl rfl (Nat.le_of_ble_eq_true rfl) dX0_stopAt_7 (fun H locs hP hD hS => ?_)
  have hP : va_P (dC, dI) vwCl (lmW cA a0 a1 a2 ((zu (zu Z 7 b) 8 1), T, K)) H := hP
  have hD : va_D A (lmW cA a0 a1 a2 ((zu (zu Z 7 b) 8 1), T, K)) := hD
  refine lv_iload_n hx hb dX0_stopAt_10 rfl (lv_at hl 2 rfl) ?_
  exact W.iret (v := nI f) hx hb hr (fun t ht hW => ⟨⟨_, ((zu (zu Z 7 b) 8 1), T, K), rfl, ⟨rfl, rfl⟩, by rw [ht]; exact hP, va_K.moved hW.alike hK, hD⟩, hS.F ht⟩) hS.2.2 dX0_stopAt_11
set_option maxHeartbeats 4000000 in
set_option maxRecDepth 100000 in
theorem c_begin (l : Launch) (dC : Nat → ClassId) (dI : Nat → Nat → Nat) (cA : ClassId) (a0 a1 a2 : Nat) (sz : Nat) (Z : Nat → Nat) (T K : Nat → Int64)  : Met l yX0_begin wX0_begin ({ frames := 1, cells := 0, slots := 0, locals := 20 }) (va_Pc [.ref a0] (lmP dC dI cA a0 a1 a2 sz (Z, T, K))) (va_Qv (fun (u : lmU) => u = ((zu (zu (zu (zu (zu (zu (zu Z 3 0) 4 1) 5 0) 6 0) 7 0) 8 0) 9 0), T, K)) (lmB dC dI cA a0 a1 a2 (va_A (lmW cA a0 a1 a2 (Z, T, K)) sz)) (va_A (lmW cA a0 a1 a2 (Z, T, K)) sz)) 0 0 (va_A (lmW cA a0 a1 a2 (Z, T, K)) sz) := by
  refine Met.ofW (cc := cX0_begin) (maxL := 1) (ret := none) (by decide) rfl ?_
  intro p e s m args below meth c s₁ B hml hv
  obtain ⟨rfl, hsz, hP, hK, hD0⟩ := hv
  have hx := B.exec
  have hb := B.bytes
  have hr := B.returns
  have hts : ∀ w ∈ bw, w.before _ s = true := fun w h => atoms_spec (ws := wX0_begin) B.pre w (bc w h)
  have hown : s.vm.findClass RX0 = some m.cls := findClass_of_methodNamed B.named
  have hlocks := B.notSynchronized
  subst hsz
  have hD := hD0.self (sz := s.heap.size)
  generalize hAe : va_A (lmW cA a0 a1 a2 (Z, T, K)) s.heap.size = A at hD ⊢
  have hA : ∀ q : Nat, s.heap.size ≤ q → A q := fun q h => by rw [← hAe]; exact Or.inr h
  have hS : va_S A s.heap s.heap [] := va_S.rf
  have hl := lv_entry ([.ref a0]) (n := 1) (Nat.le_of_ble_eq_true rfl)
  rw [lg_entry_eq]
  generalize (lg_sl ([.ref a0]) ++ List.replicate (1 - (lg_sl ([.ref a0])).length) Slot.unset).toArray = ls at hl ⊢
  have hl : lv_has ls 1 [(0, .ref a0)] := hl
  refine lv_aload_n hx hb dX0_begin_0 rfl (lv_at hl 0 rfl) ?_
  refine lm_callv (va_runV (As := []) (rest := []) ⟨hx, hb, hml, hown, hts⟩ (c_restart l dC dI cA a0 a1 a2 s.heap.size Z T K  ) (cwV 0 hts (gV (fun _ h => h) ml_X0_16 im_X0_restart se_X0_restart ini_X0 co_X0_restart) rfl rfl rfl pd_X0_restart ⟨Nat.le_of_ble_eq_true rfl, Nat.le_of_ble_eq_true rfl⟩) (lm_preS hK hP hD) rfl rfl hl.1 rfl (lv_room (Nat.le_of_ble_eq_true rfl)) dX0_begin_1 ⟨Nat.zero_le _, Nat.zero_le _⟩) hD hS hA (fun u_2 H locs q_1 hP hD hS => ?_)
  subst q_1
  have hP : va_P (dC, dI) vwCl (lmW cA a0 a1 a2 ((zu (zu (zu (zu (zu (zu (zu Z 3 0) 4 1) 5 0) 6 0) 7 0) 8 0) 9 0), T, K)) H := hP
  have hD : va_D A (lmW cA a0 a1 a2 ((zu (zu (zu (zu (zu (zu (zu Z 3 0) 4 1) 5 0) 6 0) 7 0) 8 0) 9 0), T, K)) := hD
  exact W.vret hx hb hr (fun t ht hW => ⟨⟨((zu (zu (zu (zu (zu (zu (zu Z 3 0) 4 1) 5 0) 6 0) 7 0) 8 0) 9 0), T, K), rfl, rfl, by rw [ht]; exact hP, va_K.moved hW.alike hK, hD⟩, hS.F ht⟩) hS.2.2 dX0_begin_4
set_option maxHeartbeats 4000000 in
set_option maxRecDepth 100000 in
theorem c_clear (l : Launch) (dC : Nat → ClassId) (dI : Nat → Nat → Nat) (cA : ClassId) (a0 a1 a2 : Nat) (sz : Nat) (Z : Nat → Nat) (T K : Nat → Int64)  : Met l yX0_clear wX0_clear ({ frames := 1, cells := 0, slots := 0, locals := 20 }) (va_Pc [.ref a0] (lmP dC dI cA a0 a1 a2 sz (Z, T, K))) (va_Qi (fun (r : Int32) (u : lmU) => r = nI (Z 2) ∧ u = ((zu (zu (zu (zu (zu (zu (zu (zu Z 2 0) 3 0) 4 1) 5 0) 6 0) 7 0) 8 0) 9 0), T, K)) (lmB dC dI cA a0 a1 a2 (va_A (lmW cA a0 a1 a2 (Z, T, K)) sz)) (va_A (lmW cA a0 a1 a2 (Z, T, K)) sz)) 0 0 (va_A (lmW cA a0 a1 a2 (Z, T, K)) sz) := by
  refine Met.ofW (cc := cX0_clear) (maxL := 2) (ret := (some .int)) (by decide) rfl ?_
  intro p e s m args below meth c s₁ B hml hv
  obtain ⟨rfl, hsz, hP, hK, hD0⟩ := hv
  have hx := B.exec
  have hb := B.bytes
  have hr := B.returns
  have hts : ∀ w ∈ bw, w.before _ s = true := fun w h => atoms_spec (ws := wX0_clear) B.pre w (bc w h)
  have hown : s.vm.findClass RX0 = some m.cls := findClass_of_methodNamed B.named
  have hlocks := B.notSynchronized
  subst hsz
  have hD := hD0.self (sz := s.heap.size)
  generalize hAe : va_A (lmW cA a0 a1 a2 (Z, T, K)) s.heap.size = A at hD ⊢
  have hA : ∀ q : Nat, s.heap.size ≤ q → A q := fun q h => by rw [← hAe]; exact Or.inr h
  have hS : va_S A s.heap s.heap [] := va_S.rf
  have hl := lv_entry ([.ref a0]) (n := 2) (Nat.le_of_ble_eq_true rfl)
  rw [lg_entry_eq]
  generalize (lg_sl ([.ref a0]) ++ List.replicate (2 - (lg_sl ([.ref a0])).length) Slot.unset).toArray = ls at hl ⊢
  have hl : lv_has ls 2 [(0, .ref a0)] := hl
  refine lv_aload_n hx hb dX0_clear_0 rfl (lv_at hl 0 rfl) ?_
  refine va_get (D := (dC, dI)) (ci := 0) (v := .int (nI (Z 2))) (C := RX0) (T := TX0) (N := 16) hx hb hts inX0 hown hK hP 0 rfl rfl 2 (by decide) (hts _ fl_X0_19) (fun _ h9 => h9) rfl dX0_clear_1 ?_
  refine lv_istore_n (lv' := [(1, .int (nI (Z 2))), (0, .ref a0)]) hx hb dX0_clear_4 rfl hl (by decide) rfl (fun ls hl => ?_)
  refine lv_aload_n hx hb dX0_clear_5 rfl (lv_at hl 1 rfl) ?_
  refine lv_iconst (v := nI 0) hx hb dX0_clear_6 (by decide) ?_
  refine va_put (D := (dC, dI)) (ci := 0) (v := .int (nI 0)) (ty := .int) (C := RX0) (T := TX0) (N := 16) hx hb hts inX0 tyX0 okX0 nmX0 hown hK hP hD hS 0 rfl rfl 2 (by decide) (hts _ fl_X0_19) (fun _ h9 => h9) rfl (by decide +kernel) rfl rfl (Nat.le_of_ble_eq_true rfl) dX0_clear_7 (fun H locs hP hD hS => ?_)
  have hP : va_P (dC, dI) vwCl (lmW cA a0 a1 a2 ((zu Z 2 0), T, K)) H := hP
  have hD : va_D A (lmW cA a0 a1 a2 ((zu Z 2 0), T, K)) := hD
  refine lv_aload_n hx hb dX0_clear_10 rfl (lv_at hl 1 rfl) ?_
  refine lm_callv (va_runV (As := []) (rest := []) ⟨hx, hb, hml, hown, hts⟩ (c_restart l dC dI cA a0 a1 a2 H.size (zu Z 2 0) T K  ) (cwV 0 hts (gV (fun _ h => h) ml_X0_16 im_X0_restart se_X0_restart ini_X0 co_X0_restart) rfl rfl rfl pd_X0_restart ⟨Nat.le_of_ble_eq_true rfl, Nat.le_of_ble_eq_true rfl⟩) (lm_preS hK hP hD) rfl rfl hl.1 rfl (lv_room (Nat.le_of_ble_eq_true rfl)) dX0_clear_11 ⟨Nat.zero_le _, Nat.zero_le _⟩) hD hS hA (fun u_2 H locs q_1 hP hD hS => ?_)
  subst q_1
  have hP : va_P (dC, dI) vwCl (lmW cA a0 a1 a2 ((zu (zu (zu (zu (zu (zu (zu (zu Z 2 0) 3 0) 4 1) 5 0) 6 0) 7 0) 8 0) 9 0), T, K)) H := hP
  have hD : va_D A (lmW cA a0 a1 a2 ((zu (zu (zu (zu (zu (zu (zu (zu Z 2 0) 3 0) 4 1) 5 0) 6 0) 7 0) 8 0) 9 0), T, K)) := hD
  refine lv_iload_n hx hb dX0_clear_14 rfl (lv_at hl 0 rfl) ?_
  exact W.iret (v := nI (Z 2)) hx hb hr (fun t ht hW => ⟨⟨_, ((zu (zu (zu (zu (zu (zu (zu (zu Z 2 0) 3 0) 4 1) 5 0) 6 0) 7 0) 8 0) 9 0), T, K), rfl, ⟨rfl, rfl⟩, by rw [ht]; exact hP, va_K.moved hW.alike hK, hD⟩, hS.F ht⟩) hS.2.2 dX0_clear_15
set_option maxHeartbeats 4000000 in
set_option maxRecDepth 100000 in
theorem k_pass_2 {p : Program} {l : Launch} {e : Env} {s : State} {m : MethodId} {args : Array Value} {below : List Frame} {meth : Method} {c : Code} {A : Nat → Prop} (hx : p.tables.exec = Jvm.exec) (hb : c.code = cX0_pass) (hr : meth.sig.returnType = (some .int)) (hml : c.maxLocals = 4) (hown : s.vm.findClass RX0 = some m.cls) (hts : ∀ w ∈ bw, w.before args s = true) (hlocks : meth.locks = false) {dC : Nat → ClassId} {dI : Nat → Nat → Nat} {cA : ClassId} {a0 a1 a2 : Nat} {Z : Nat → Nat} {T K : Nat → Int64} (hK : va_K (dC, dI) vwCl [(cA, .long)] s) (hA : ∀ q, s.heap.size ≤ q → A q) (stop : Nat) (hn : Z 2 ≤ 32768) (hst : stop < 2 ^ 29) (P : Int32 → lmU → Prop) : ∀ (k : Nat) (a : Nat) (li : Nat) (n : Nat), stop - a < k → a < 2 ^ 29 → P (nI (pss T (Z 2) stop a li n).2.2) (zu (zu Z 3 (pss T (Z 2) stop a li n).1) 4 (pss T (Z 2) stop a li n).2.1, T, K) → ∀ (H : Heap) (locs : List Loc), va_P (dC, dI) vwCl (lmW cA a0 a1 a2 ((zu (zu Z 3 a) 4 li), T, K)) H → va_D A (lmW cA a0 a1 a2 ((zu (zu Z 3 a) 4 li), T, K)) → va_S A s.heap H locs → ∀ ls, lv_has ls 4 [(0, .ref a0), (1, .int (nI stop)), (2, .int (nI n))] → W p l e (headSpec wX0_pass ({ frames := 2, cells := 0, slots := 0, locals := 44 })).room s m args below meth c H locs 0 0 (MQ below (va_Qi P (lmB dC dI cA a0 a1 a2 A) A) args s 0 0 A) (F0 m 2 ls []) := by
  intro k
  induction k with
  | zero => intro a li n hk; exact absurd hk (by omega)
  | succ k ih =>
    intro a li n hk ha hQ H locs hP hD hS ls hl
    refine lv_aload_n hx hb dX0_pass_2 rfl (lv_at hl 0 rfl) ?_
    refine va_get (D := (dC, dI)) (ci := 0) (v := .int (nI a)) (C := RX0) (T := TX0) (N := 16) hx hb hts inX0 hown hK hP 0 rfl rfl 3 (by decide) (hts _ fl_X0_39) (fun _ h9 => h9) rfl dX0_pass_3 ?_
    refine lv_iload_n hx hb dX0_pass_6 rfl (lv_at hl 1 rfl) ?_
    refine lv_icmp_ge (tgt := 92) hx hb dX0_pass_7 (by decide) (fun c_1 => ?_) (fun c_1 => ?_)
    · have c_1 := (nI_leI (a := stop) (b := a) (by omega) (by omega)).mp c_1
      refine lv_iload_n hx hb dX0_pass_92 rfl (lv_at hl 2 rfl) ?_
      exact W.iret (v := nI n) hx hb hr (fun t ht hW => ⟨⟨_, ((zu (zu Z 3 a) 4 li), T, K), rfl, (by rw [pss, if_neg (by omega)] at hQ; exact hQ), by rw [ht]; exact hP, va_K.moved hW.alike hK, hD⟩, hS.F ht⟩) hS.2.2 dX0_pass_93
    · have c_1 := mt (nI_leI (a := stop) (b := a) (by omega) (by omega)).mpr c_1
      refine lv_aload_n hx hb dX0_pass_10 rfl (lv_at hl 0 rfl) ?_
      refine lv_aload_n hx hb dX0_pass_11 rfl (lv_at hl 0 rfl) ?_
      refine va_get (D := (dC, dI)) (ci := 0) (v := .int (nI a)) (C := RX0) (T := TX0) (N := 16) hx hb hts inX0 hown hK hP 0 rfl rfl 3 (by decide) (hts _ fl_X0_39) (fun _ h9 => h9) rfl dX0_pass_12 ?_
      refine vp_callSi (va_Run.run (va_runV (As := [.int (nI a)]) (rest := []) ⟨hx, hb, hml, hown, hts⟩ (c_leftFrom l dC dI cA a0 a1 a2 (zu (zu Z 3 a) 4 li) T K a (show Z 2 ≤ 32768 by omega) (show a < 2 ^ 30 by omega)) (cwV 1 hts (gV (fun _ h => h) ml_X0_42 im_X0_leftFrom se_X0_leftFrom ini_X0 co_X0_leftFrom) rfl rfl rfl pd_X0_leftFrom ⟨Nat.le_of_ble_eq_true rfl, Nat.le_of_ble_eq_true rfl⟩) (lm_preR hK hP) rfl rfl hl.1 rfl (lv_room (Nat.le_of_ble_eq_true rfl)) dX0_pass_15 ⟨Nat.zero_le _, Nat.zero_le _⟩)) (fun r_2 (e_3 : r_2 = nI (lf T (Z 2) a)) => ?_)
      subst e_3
      have := lf_b T (Z 2) a
      refine lv_istore_n (lv' := [(3, .int (nI (lf T (Z 2) a))), (0, .ref a0), (1, .int (nI stop)), (2, .int (nI n))]) hx hb dX0_pass_18 rfl hl (by decide) rfl (fun ls hl => ?_)
      refine lv_aload_n hx hb dX0_pass_19 rfl (lv_at hl 1 rfl) ?_
      refine lv_dup hx hb dX0_pass_20 rfl ?_
      refine va_get (D := (dC, dI)) (ci := 0) (v := .int (nI li)) (C := RX0) (T := TX0) (N := 16) hx hb hts inX0 hown hK hP 0 rfl rfl 4 (by decide) (hts _ fl_X0_68) (fun _ h9 => h9) rfl dX0_pass_21 ?_
      refine lv_iload_n hx hb dX0_pass_24 rfl (lv_at hl 0 rfl) ?_
      refine lv_aload_n hx hb dX0_pass_25 rfl (lv_at hl 1 rfl) ?_
      refine va_get (D := (dC, dI)) (ci := 0) (v := .int (nI a)) (C := RX0) (T := TX0) (N := 16) hx hb hts inX0 hown hK hP 0 rfl rfl 3 (by decide) (hts _ fl_X0_39) (fun _ h9 => h9) rfl dX0_pass_26 ?_
      refine lv_isub hx hb dX0_pass_29 ?_
      refine lv_topi (fun x_4 e_5 => ?_)
      obtain rfl : x_4 = nI (lf T (Z 2) a - a) := e_5.trans (pk_sub (by omega))
      refine lv_iconst (v := nI 2) hx hb dX0_pass_30 (by decide) ?_
      refine lv_idiv hx hb dX0_pass_31 (by decide) ?_
      refine lv_topi (fun x_6 e_7 => ?_)
      obtain rfl : x_6 = nI ((lf T (Z 2) a - a) / 2) := e_7.trans (pk_div (by omega) (by decide) (by decide))
      refine lv_iadd hx hb dX0_pass_32 ?_
      refine lv_topi (fun x_8 e_9 => ?_)
      obtain rfl : x_8 = nI (li + ((lf T (Z 2) a - a) / 2)) := e_9.trans (nI_add li ((lf T (Z 2) a - a) / 2))
      refine va_put (D := (dC, dI)) (ci := 0) (v := .int (nI (li + ((lf T (Z 2) a - a) / 2)))) (ty := .int) (C := RX0) (T := TX0) (N := 16) hx hb hts inX0 tyX0 okX0 nmX0 hown hK hP hD hS 0 rfl rfl 4 (by decide) (hts _ fl_X0_68) (fun _ h9 => h9) rfl (by decide +kernel) rfl rfl (Nat.le_of_ble_eq_true rfl) dX0_pass_33 (fun H locs hP hD hS => ?_)
      have hP : va_P (dC, dI) vwCl (lmW cA a0 a1 a2 ((zu (zu Z 3 a) 4 (li + ((lf T (Z 2) a - a) / 2))), T, K)) H := hP
      have hD : va_D A (lmW cA a0 a1 a2 ((zu (zu Z 3 a) 4 (li + ((lf T (Z 2) a - a) / 2))), T, K)) := hD
      refine lv_aload_n hx hb dX0_pass_36 rfl (lv_at hl 1 rfl) ?_
      refine lv_iload_n hx hb dX0_pass_37 rfl (lv_at hl 0 rfl) ?_
      refine va_put (D := (dC, dI)) (ci := 0) (v := .int (nI (lf T (Z 2) a))) (ty := .int) (C := RX0) (T := TX0) (N := 16) hx hb hts inX0 tyX0 okX0 nmX0 hown hK hP hD hS 0 rfl rfl 3 (by decide) (hts _ fl_X0_39) (fun _ h9 => h9) rfl (by decide +kernel) rfl rfl (Nat.le_of_ble_eq_true rfl) dX0_pass_38 (fun H locs hP hD hS => ?_)
      have hP : va_P (dC, dI) vwCl (lmW cA a0 a1 a2 ((zu (zu Z 3 (lf T (Z 2) a)) 4 (li + ((lf T (Z 2) a - a) / 2))), T, K)) H := hP
      have hD : va_D A (lmW cA a0 a1 a2 ((zu (zu Z 3 (lf T (Z 2) a)) 4 (li + ((lf T (Z 2) a - a) / 2))), T, K)) := hD
      refine lv_aload_n hx hb dX0_pass_41 rfl (lv_at hl 1 rfl) ?_
      refine va_get (D := (dC, dI)) (ci := 0) (v := .int (nI (lf T (Z 2) a))) (C := RX0) (T := TX0) (N := 16) hx hb hts inX0 hown hK hP 0 rfl rfl 3 (by decide) (hts _ fl_X0_39) (fun _ h9 => h9) rfl dX0_pass_42 ?_
      refine lv_iload_n hx hb dX0_pass_45 rfl (lv_at hl 2 rfl) ?_
      refine lv_icmp_ge (tgt := 89) hx hb dX0_pass_46 (by decide) (fun c_10 => ?_) (fun c_10 => ?_)
      · have c_10 := (nI_leI (a := stop) (b := lf T (Z 2) a) (by omega) (by omega)).mp c_10
        refine lv_goto (tgt := 2) hx hb dX0_pass_89 (by decide) ?_
        exact ih (lf T (Z 2) a) (li + ((lf T (Z 2) a - a) / 2)) n (by omega) (by omega) (by rw [pss, if_pos (by omega), if_neg (by omega)] at hQ; rw [pss, if_neg (by omega)]; exact hQ) _ _ hP hD hS _ (lv_sub hl [1, 2, 3] rfl)
      · have c_10 := mt (nI_leI (a := stop) (b := lf T (Z 2) a) (by omega) (by omega)).mpr c_10
        refine lv_aload_n hx hb dX0_pass_49 rfl (lv_at hl 1 rfl) ?_
        refine lv_dup hx hb dX0_pass_50 rfl ?_
        refine va_get (D := (dC, dI)) (ci := 0) (v := .int (nI (li + ((lf T (Z 2) a - a) / 2)))) (C := RX0) (T := TX0) (N := 16) hx hb hts inX0 hown hK hP 0 rfl rfl 4 (by decide) (hts _ fl_X0_68) (fun _ h9 => h9) rfl dX0_pass_51 ?_
        refine lv_aload_n hx hb dX0_pass_54 rfl (lv_at hl 1 rfl) ?_
        refine lv_aload_n hx hb dX0_pass_55 rfl (lv_at hl 1 rfl) ?_
        refine va_get (D := (dC, dI)) (ci := 0) (v := .int (nI (lf T (Z 2) a))) (C := RX0) (T := TX0) (N := 16) hx hb hts inX0 hown hK hP 0 rfl rfl 3 (by decide) (hts _ fl_X0_39) (fun _ h9 => h9) rfl dX0_pass_56 ?_
        refine vp_callSi (va_Run.run (va_runV (As := [.int (nI (lf T (Z 2) a))]) (rest := [.int (nI (li + ((lf T (Z 2) a - a) / 2))), .ref a0]) ⟨hx, hb, hml, hown, hts⟩ (c_byteAt l dC dI cA a0 a1 a2 (zu (zu Z 3 (lf T (Z 2) a)) 4 (li + ((lf T (Z 2) a - a) / 2))) T K (lf T (Z 2) a) (show Z 2 ≤ 32768 by omega) (show lf T (Z 2) a < 2 ^ 31 by omega)) (cwV 1 hts (gV (fun _ h => h) ml_X0_28 im_X0_byteAt se_X0_byteAt ini_X0 co_X0_byteAt) rfl rfl rfl pd_X0_byteAt ⟨Nat.le_of_ble_eq_true rfl, Nat.le_of_ble_eq_true rfl⟩) (lm_preR hK hP) rfl rfl hl.1 rfl (lv_room (Nat.le_of_ble_eq_true rfl)) dX0_pass_59 ⟨Nat.zero_le _, Nat.zero_le _⟩)) (fun r_11 (e_12 : r_11 = bI (gb T (Z 2) (lf T (Z 2) a))) => ?_)
        subst e_12
        have := gb_in T (Z 2) (lf T (Z 2) a)
        refine lv_bipush (v := nI 10) hx hb dX0_pass_62 (by decide) ?_
        refine lv_icmp_ne (tgt := 71) hx hb dX0_pass_64 (by decide) (fun c_13 => ?_) (fun c_13 => ?_)
        · have c_13 := mt (bI_eqN (by omega)).mpr c_13
          refine lv_iconst (v := nI 0) hx hb dX0_pass_71 (by decide) ?_
          refine lv_iadd hx hb dX0_pass_72 ?_
          refine lv_topi (fun x_14 e_15 => ?_)
          obtain rfl : x_14 = nI (li + ((lf T (Z 2) a - a) / 2) + 0) := e_15.trans (nI_add (li + ((lf T (Z 2) a - a) / 2)) 0)
          refine va_put (D := (dC, dI)) (ci := 0) (v := .int (nI (li + ((lf T (Z 2) a - a) / 2) + 0))) (ty := .int) (C := RX0) (T := TX0) (N := 16) hx hb hts inX0 tyX0 okX0 nmX0 hown hK hP hD hS 0 rfl rfl 4 (by decide) (hts _ fl_X0_68) (fun _ h9 => h9) rfl (by decide +kernel) rfl rfl (Nat.le_of_ble_eq_true rfl) dX0_pass_73 (fun H locs hP hD hS => ?_)
          have hP : va_P (dC, dI) vwCl (lmW cA a0 a1 a2 ((zu (zu Z 3 (lf T (Z 2) a)) 4 (li + ((lf T (Z 2) a - a) / 2) + 0)), T, K)) H := hP
          have hD : va_D A (lmW cA a0 a1 a2 ((zu (zu Z 3 (lf T (Z 2) a)) 4 (li + ((lf T (Z 2) a - a) / 2) + 0)), T, K)) := hD
          refine lv_iinc (v := nI (n + 1)) (lv' := [(2, .int (nI (n + 1))), (3, .int (nI (lf T (Z 2) a))), (0, .ref a0), (1, .int (nI stop))]) hx hb dX0_pass_76 hl (k := 3) rfl (by exact nI_add n 1) (by decide) rfl (fun ls hl => ?_)
          refine lv_aload_n hx hb dX0_pass_79 rfl (lv_at hl 2 rfl) ?_
          refine lv_dup hx hb dX0_pass_80 rfl ?_
          refine va_get (D := (dC, dI)) (ci := 0) (v := .int (nI (lf T (Z 2) a))) (C := RX0) (T := TX0) (N := 16) hx hb hts inX0 hown hK hP 0 rfl rfl 3 (by decide) (hts _ fl_X0_39) (fun _ h9 => h9) rfl dX0_pass_81 ?_
          refine lv_iconst (v := nI 1) hx hb dX0_pass_84 (by decide) ?_
          refine lv_iadd hx hb dX0_pass_85 ?_
          refine lv_topi (fun x_16 e_17 => ?_)
          obtain rfl : x_16 = nI (lf T (Z 2) a + 1) := e_17.trans (nI_add (lf T (Z 2) a) 1)
          refine va_put (D := (dC, dI)) (ci := 0) (v := .int (nI (lf T (Z 2) a + 1))) (ty := .int) (C := RX0) (T := TX0) (N := 16) hx hb hts inX0 tyX0 okX0 nmX0 hown hK hP hD hS 0 rfl rfl 3 (by decide) (hts _ fl_X0_39) (fun _ h9 => h9) rfl (by decide +kernel) rfl rfl (Nat.le_of_ble_eq_true rfl) dX0_pass_86 (fun H locs hP hD hS => ?_)
          have hP : va_P (dC, dI) vwCl (lmW cA a0 a1 a2 ((zu (zu Z 3 (lf T (Z 2) a + 1)) 4 (li + ((lf T (Z 2) a - a) / 2) + 0)), T, K)) H := hP
          have hD : va_D A (lmW cA a0 a1 a2 ((zu (zu Z 3 (lf T (Z 2) a + 1)) 4 (li + ((lf T (Z 2) a - a) / 2) + 0)), T, K)) := hD
          refine lv_goto (tgt := 2) hx hb dX0_pass_89 (by decide) ?_
          exact ih (lf T (Z 2) a + 1) (li + ((lf T (Z 2) a - a) / 2) + 0) (n + 1) (by omega) (by omega) (by rw [pss, if_pos (by omega), if_pos (by omega), if_neg (by omega)] at hQ; exact hQ) _ _ hP hD hS _ (lv_sub hl [2, 3, 0] rfl)
        · have c_13 := (bI_eqN (by omega)).mp c_13
          refine lv_iconst (v := nI 1) hx hb dX0_pass_67 (by decide) ?_
          refine lv_goto (tgt := 72) hx hb dX0_pass_68 (by decide) ?_
          refine lv_iadd hx hb dX0_pass_72 ?_
          refine lv_topi (fun x_18 e_19 => ?_)
          obtain rfl : x_18 = nI (li + ((lf T (Z 2) a - a) / 2) + 1) := e_19.trans (nI_add (li + ((lf T (Z 2) a - a) / 2)) 1)
          refine va_put (D := (dC, dI)) (ci := 0) (v := .int (nI (li + ((lf T (Z 2) a - a) / 2) + 1))) (ty := .int) (C := RX0) (T := TX0) (N := 16) hx hb hts inX0 tyX0 okX0 nmX0 hown hK hP hD hS 0 rfl rfl 4 (by decide) (hts _ fl_X0_68) (fun _ h9 => h9) rfl (by decide +kernel) rfl rfl (Nat.le_of_ble_eq_true rfl) dX0_pass_73 (fun H locs hP hD hS => ?_)
          have hP : va_P (dC, dI) vwCl (lmW cA a0 a1 a2 ((zu (zu Z 3 (lf T (Z 2) a)) 4 (li + ((lf T (Z 2) a - a) / 2) + 1)), T, K)) H := hP
          have hD : va_D A (lmW cA a0 a1 a2 ((zu (zu Z 3 (lf T (Z 2) a)) 4 (li + ((lf T (Z 2) a - a) / 2) + 1)), T, K)) := hD
          refine lv_iinc (v := nI (n + 1)) (lv' := [(2, .int (nI (n + 1))), (3, .int (nI (lf T (Z 2) a))), (0, .ref a0), (1, .int (nI stop))]) hx hb dX0_pass_76 hl (k := 3) rfl (by exact nI_add n 1) (by decide) rfl (fun ls hl => ?_)
          refine lv_aload_n hx hb dX0_pass_79 rfl (lv_at hl 2 rfl) ?_
          refine lv_dup hx hb dX0_pass_80 rfl ?_
          refine va_get (D := (dC, dI)) (ci := 0) (v := .int (nI (lf T (Z 2) a))) (C := RX0) (T := TX0) (N := 16) hx hb hts inX0 hown hK hP 0 rfl rfl 3 (by decide) (hts _ fl_X0_39) (fun _ h9 => h9) rfl dX0_pass_81 ?_
          refine lv_iconst (v := nI 1) hx hb dX0_pass_84 (by decide) ?_
          refine lv_iadd hx hb dX0_pass_85 ?_
          refine lv_topi (fun x_20 e_21 => ?_)
          obtain rfl : x_20 = nI (lf T (Z 2) a + 1) := e_21.trans (nI_add (lf T (Z 2) a) 1)
          refine va_put (D := (dC, dI)) (ci := 0) (v := .int (nI (lf T (Z 2) a + 1))) (ty := .int) (C := RX0) (T := TX0) (N := 16) hx hb hts inX0 tyX0 okX0 nmX0 hown hK hP hD hS 0 rfl rfl 3 (by decide) (hts _ fl_X0_39) (fun _ h9 => h9) rfl (by decide +kernel) rfl rfl (Nat.le_of_ble_eq_true rfl) dX0_pass_86 (fun H locs hP hD hS => ?_)
          have hP : va_P (dC, dI) vwCl (lmW cA a0 a1 a2 ((zu (zu Z 3 (lf T (Z 2) a + 1)) 4 (li + ((lf T (Z 2) a - a) / 2) + 1)), T, K)) H := hP
          have hD : va_D A (lmW cA a0 a1 a2 ((zu (zu Z 3 (lf T (Z 2) a + 1)) 4 (li + ((lf T (Z 2) a - a) / 2) + 1)), T, K)) := hD
          refine lv_goto (tgt := 2) hx hb dX0_pass_89 (by decide) ?_
          exact ih (lf T (Z 2) a + 1) (li + ((lf T (Z 2) a - a) / 2) + 1) (n + 1) (by omega) (by omega) (by rw [pss, if_pos (by omega), if_pos (by omega), if_pos (by omega)] at hQ; exact hQ) _ _ hP hD hS _ (lv_sub hl [2, 3, 0] rfl)
set_option maxHeartbeats 4000000 in
set_option maxRecDepth 100000 in
theorem c_pass (l : Launch) (dC : Nat → ClassId) (dI : Nat → Nat → Nat) (cA : ClassId) (a0 a1 a2 : Nat) (sz : Nat) (Z : Nat → Nat) (T K : Nat → Int64) (stop : Nat) (hn : Z 2 ≤ 32768) (hst : stop < 2 ^ 29) (ha : Z 3 < 2 ^ 29) : Met l yX0_pass wX0_pass ({ frames := 2, cells := 0, slots := 0, locals := 44 }) (va_Pc [.ref a0, .int (nI stop)] (lmP dC dI cA a0 a1 a2 sz (Z, T, K))) (va_Qi (fun (r : Int32) (u : lmU) => ∃ x y z, pss T (Z 2) stop (Z 3) (Z 4) 0 = (x, y, z) ∧ r = nI z ∧ u = (zu (zu Z 3 x) 4 y, T, K)) (lmB dC dI cA a0 a1 a2 (va_A (lmW cA a0 a1 a2 (Z, T, K)) sz)) (va_A (lmW cA a0 a1 a2 (Z, T, K)) sz)) 0 0 (va_A (lmW cA a0 a1 a2 (Z, T, K)) sz) := by
  refine Met.ofW (cc := cX0_pass) (maxL := 4) (ret := (some .int)) (by decide) rfl ?_
  intro p e s m args below meth c s₁ B hml hv
  obtain ⟨rfl, hsz, hP, hK, hD0⟩ := hv
  have hx := B.exec
  have hb := B.bytes
  have hr := B.returns
  have hts : ∀ w ∈ bw, w.before _ s = true := fun w h => atoms_spec (ws := wX0_pass) B.pre w (bc w h)
  have hown : s.vm.findClass RX0 = some m.cls := findClass_of_methodNamed B.named
  have hlocks := B.notSynchronized
  subst hsz
  have hD := hD0.self (sz := s.heap.size)
  generalize hAe : va_A (lmW cA a0 a1 a2 (Z, T, K)) s.heap.size = A at hD ⊢
  have hA : ∀ q : Nat, s.heap.size ≤ q → A q := fun q h => by rw [← hAe]; exact Or.inr h
  have hS : va_S A s.heap s.heap [] := va_S.rf
  have hl := lv_entry ([.ref a0, .int (nI stop)]) (n := 4) (Nat.le_of_ble_eq_true rfl)
  rw [lg_entry_eq]
  generalize (lg_sl ([.ref a0, .int (nI stop)]) ++ List.replicate (4 - (lg_sl ([.ref a0, .int (nI stop)])).length) Slot.unset).toArray = ls at hl ⊢
  have hl : lv_has ls 4 [(0, .ref a0), (1, .int (nI stop))] := hl
  refine lv_iconst (v := nI 0) hx hb dX0_pass_0 (by decide) ?_
  refine lv_istore_n (lv' := [(2, .int (nI 0)), (0, .ref a0), (1, .int (nI stop))]) hx hb dX0_pass_1 rfl hl (by decide) rfl (fun ls hl => ?_)
  exact k_pass_2 hx hb hr hml hown hts hlocks hK hA stop hn hst (fun r u => ∃ x y z, pss T (Z 2) stop (Z 3) (Z 4) 0 = (x, y, z) ∧ r = nI z ∧ u = (zu (zu Z 3 x) 4 y, T, K)) (stop - Z 3 + 1) (Z 3) (Z 4) 0 (by omega) ha ⟨_, _, _, rfl, rfl, rfl⟩ _ _ hP hD hS _ (lv_sub hl [1, 2, 0] rfl)
end
section
/-- a long's bits where one of its bytes is replaced -/
theorem app_bits (x : Int64) (s v : Nat) (b : Nat) (hb : b < 64) : (tn ((lN (tn x) &&& (lN (255 * 2 ^ s) ^^^ (-1))) ||| lN (v * 2 ^ s))).testBit b = if s ≤ b ∧ b < s + 8 then v.testBit (b - s) else ((tn x).testBit b || (decide (s ≤ b) && v.testBit (b - s))) := by
  unfold tn
  rw [BitVec.testBit_toNat, BitVec.testBit_toNat, Int64.toBitVec_or, Int64.toBitVec_and, Int64.toBitVec_xor, wb_tb, wb_tb, wb_tb, BitVec.getLsbD_or, BitVec.getLsbD_and, BitVec.getLsbD_xor, BitVec.getLsbD_ofNat, BitVec.getLsbD_ofNat, BitVec.getLsbD_ofNat, show ((-1 : Int64)).toBitVec = BitVec.allOnes 64 by decide, BitVec.getLsbD_allOnes, Nat.testBit_mul_two_pow, Nat.testBit_mul_two_pow, show (255 : Nat) = 2 ^ 8 - 1 by decide, Nat.testBit_two_pow_sub_one, BitVec.testBit_toNat]
  by_cases h1 : s ≤ b
  · by_cases h2 : b < s + 8
    · rw [if_pos ⟨h1, h2⟩]
      simp [hb, h1, show b - s < 8 by omega]
    · rw [if_neg (fun z => h2 z.2)]
      simp [hb, h1, show ¬ b - s < 8 by omega]
  · rw [if_neg (fun z => h1 z.1)]
    simp [hb, h1]
theorem app_byt (T : Nat → Int64) (n v : Nat) (hv : v < 256) : ∀ p, byt (vp_updL T (n / 8) ((lN (tn (T (n / 8))) &&& (lN (255 * 2 ^ (n % 8 * 8)) ^^^ (-1))) ||| lN (v * 2 ^ (n % 8 * 8)))) p = if p = n then v else byt T p := by
  intro p
  unfold byt
  by_cases hq : p / 8 = n / 8
  · rw [hq, pk_uLs]
    apply Nat.eq_of_testBit_eq
    intro i
    rw [show (256 : Nat) = 2 ^ 8 by decide, Nat.testBit_mod_two_pow, Nat.testBit_div_two_pow]
    by_cases hi : i < 8
    · rw [app_bits _ _ _ _ (by omega)]
      by_cases hp : p = n
      · subst hp
        rw [if_pos rfl, if_pos (by omega)]
        simp [hi, show i + 8 * (p % 8) - p % 8 * 8 = i by omega]
      · rw [if_neg hp, if_neg (by omega), Nat.testBit_mod_two_pow, Nat.testBit_div_two_pow]
        by_cases h1 : n % 8 * 8 ≤ i + 8 * (p % 8)
        · rw [Nat.testBit_lt_two_pow (x := v) (i := i + 8 * (p % 8) - n % 8 * 8) (Nat.lt_of_lt_of_le hv (show 2 ^ 8 ≤ 2 ^ (i + 8 * (p % 8) - n % 8 * 8) from Nat.pow_le_pow_right (by decide) (by omega)))]
          simp
        · simp [h1]
    · simp only [hi, decide_false, Bool.false_and]
      by_cases hp : p = n
      · rw [if_pos hp, Nat.testBit_lt_two_pow (Nat.lt_of_lt_of_le hv (show 2 ^ 8 ≤ 2 ^ i from Nat.pow_le_pow_right (by decide) (by omega)))]
      · rw [if_neg hp, Nat.testBit_mod_two_pow]
        simp [hi]
  · rw [pk_uLn hq, if_neg (fun e => hq (by rw [e]))]
/-! what LineMill's cutting methods do to Z and K -/
def clZ (Z : Nat → Nat) : (Nat → Nat) × Nat :=
  if Z 10 = 0 then (Z, 0)
  else if 20000 ≤ Z 5 then (zu (zu Z 7 (Z 12)) 8 1, 21)
  else if 8000 < Z 10 then (zu (zu (zu Z 5 (Z 5 + 1)) 7 (Z 13)) 8 1, 21)
  else (zu (zu Z 5 (Z 5 + 1)) 9 (Z 10), 0)
def psZ (T : Nat → Int64) (Z : Nat → Nat) (stop : Nat) : Nat × Nat × Nat := pss T (Z 2) stop (Z 3) (Z 4) 0
def pbZ (T : Nat → Int64) (Z : Nat → Nat) (stop : Nat) : Nat → Nat := zu (zu (zu Z 3 (psZ T Z stop).1) 4 (psZ T Z stop).2.1) 11 1
def pcZ (T : Nat → Int64) (Z : Nat → Nat) (q : Nat) : (Nat → Nat) × Nat := match cmE T (Z 2) q false with
  | none => (zu (zu Z 7 (Z 4)) 8 1, 1)
  | some stop => (pbZ T Z stop, 0)
def pkT (a b li kd bf : Nat) : Nat := a + b * 2 ^ 16 + li * 2 ^ 32 + kd * 2 ^ 48 + bf * 2 ^ 52
def adZ (T : Nat → Int64) (Z : Nat → Nat) (stop : Nat) : Nat → Nat :=
  zu (zu (zu (zu (zu (zu Z 3 (psZ T Z stop).1) 4 (psZ T Z stop).2.1) 10 (Z 10 + 1)) 11 0) 12 (if Z 10 = 0 then Z 4 else Z 12)) 13 (if Z 10 = 8000 then Z 4 else Z 13)
def adK (T : Nat → Int64) (Z : Nat → Nat) (K : Nat → Int64) (kd stop : Nat) : Nat → Int64 :=
  if Z 10 < 8000 then vp_updL K (Z 10) (lN (pkT (Z 3) (psZ T Z stop).2.2 (Z 4) kd (Z 11))) else K
/-- quoteEnd behind its search w for the quote y -/
def qeR (Z : Nat → Nat) (y : Nat) (w : Nat × Bool) : Option Nat × (Nat → Nat) := match w with
  | (a, true) => (some a, Z)
  | (a, false) => (none, if y = 34 then zu Z 14 a else zu Z 15 a)
theorem qeR_t (Z : Nat → Nat) (y a : Nat) : qeR Z y (a, true) = (some a, Z) := rfl
theorem qeR_34 {Z : Nat → Nat} {y a : Nat} (h : y = 34) : qeR Z y (a, false) = (none, zu Z 14 a) := by rw [qeR, if_pos h]
theorem qeR_39 {Z : Nat → Nat} {y a : Nat} (h : ¬ y = 34) : qeR Z y (a, false) = (none, zu Z 15 a) := by rw [qeR, if_neg h]
/-- quoteEnd at place p for the quote y: where it ends, and the fields behind it -/
def qeZ (T : Nat → Int64) (Z : Nat → Nat) (p y : Nat) : Option Nat × (Nat → Nat) :=
  if p < (if y = 34 then Z 14 else Z 15) then (none, Z) else qeR Z y (qtE T (Z 2) y (lf T (Z 2) (p + 1)))
theorem qeR_k {Z : Nat → Nat} {y : Nat} {w : Nat × Bool} {k : Nat} (h1 : k ≠ 14) (h2 : k ≠ 15) : (qeR Z y w).2 k = Z k := by
  obtain ⟨a, b⟩ := w
  cases b with
  | true => rfl
  | false =>
    by_cases h : y = 34
    · rw [qeR_34 h]; exact zu_ne h1
    · rw [qeR_39 h]; exact zu_ne h2
theorem qeZ_k {T : Nat → Int64} {Z : Nat → Nat} {p y k : Nat} (h1 : k ≠ 14) (h2 : k ≠ 15) : (qeZ T Z p y).2 k = Z k := by
  rw [qeZ]
  by_cases h : p < (if y = 34 then Z 14 else Z 15)
  · rw [if_pos h]
  · rw [if_neg h]; exact qeR_k h1 h2
theorem qeR_s {Z : Nat → Nat} {y x : Nat} {w : Nat × Bool} (h : (qeR Z y w).1 = some x) : x = w.1 := by
  obtain ⟨a, b⟩ := w
  cases b with
  | true => exact (Option.some.inj h).symm
  | false => cases h
theorem qeZ_s {T : Nat → Int64} {Z : Nat → Nat} {p y x : Nat} (h : (qeZ T Z p y).1 = some x) : p < x ∧ (x ≤ p + 1 ∨ x ≤ Z 2) := by
  rw [qeZ] at h
  by_cases c : p < (if y = 34 then Z 14 else Z 15)
  · rw [if_pos c] at h; cases h
  · rw [if_neg c] at h
    have h1 := qeR_s h
    have h2 := lf_b T (Z 2) (p + 1)
    have h3 := qtE_b T (Z 2) y (lf T (Z 2) (p + 1))
    rw [← h1] at h3
    omega
theorem qeZ_u {T : Nat → Int64} {Z : Nat → Nat} {p y : Nat} {B : Nat} (hp : p + 1 ≤ B) (h2 : Z 2 ≤ B) (h14 : Z 14 ≤ B) (h15 : Z 15 ≤ B) : (qeZ T Z p y).2 14 ≤ B ∧ (qeZ T Z p y).2 15 ≤ B := by
  rw [qeZ]
  by_cases c : p < (if y = 34 then Z 14 else Z 15)
  · rw [if_pos c]; exact ⟨h14, h15⟩
  · rw [if_neg c]
    have h3 := lf_b T (Z 2) (p + 1)
    have h4 := qtE_b T (Z 2) y (lf T (Z 2) (p + 1))
    generalize qtE T (Z 2) y (lf T (Z 2) (p + 1)) = w at h4 ⊢
    obtain ⟨a, b⟩ := w
    dsimp only at h4
    cases b with
    | true => exact ⟨h14, h15⟩
    | false =>
      by_cases h : y = 34
      · rw [qeR_34 h]
        exact ⟨by show a ≤ B; omega, h15⟩
      · rw [qeR_39 h]
        exact ⟨h14, by show a ≤ B; omega⟩
/-- cutQuote behind quoteEnd: fields, tokens, fault -/
def cqR (T : Nat → Int64) (Z : Nat → Nat) (K : Nat → Int64) (y : Nat) (o : Option Nat) : (Nat → Nat) × (Nat → Int64) × Nat := match o with
  | some stop => (adZ T Z stop, adK T Z K (kdQ y) stop, 0)
  | none =>
    if 1000 ≤ Z 6 then (zu (zu Z 7 (Z 4)) 8 1, K, 21)
    else (adZ T (zu Z 6 (Z 6 + 1)) (lf T (Z 2) (Z 3 + 1)), adK T (zu Z 6 (Z 6 + 1)) K 6 (lf T (Z 2) (Z 3 + 1)), 0)
def cqZ (T : Nat → Int64) (Z : Nat → Nat) (K : Nat → Int64) (y : Nat) : (Nat → Nat) × (Nat → Int64) × Nat := cqR T (qeZ T Z (Z 3) y).2 K y (qeZ T Z (Z 3) y).1
def cwR (T : Nat → Int64) (Z : Nat → Nat) (K : Nat → Int64) (p y : Nat) (o : Option Nat) : (Nat → Nat) × (Nat → Int64) × Nat := match o with
  | some stop => (adZ T Z stop, adK T Z K (kdQ y) stop, 0)
  | none => (adZ T Z p, adK T Z K 1 p, 0)
def cwZ (T : Nat → Int64) (Z : Nat → Nat) (K : Nat → Int64) (p y : Nat) : (Nat → Nat) × (Nat → Int64) × Nat := cwR T (qeZ T Z p y).2 K p y (qeZ T Z p y).1
theorem lor_add {a b k : Nat} (hk : k ≤ 64) (ha : a < 2 ^ k) (hb : b * 2 ^ k < 2 ^ 64) : lN a ||| lN (b * 2 ^ k) = lN (a + b * 2 ^ k) := by
  have h1 : a < 2 ^ 64 := Nat.lt_of_lt_of_le ha (Nat.pow_le_pow_right (by decide) hk)
  rw [wb_or h1 hb, Nat.or_comm, Nat.mul_comm, ← Nat.two_pow_add_eq_or_of_lt ha, Nat.add_comm]
end
section
set_option maxHeartbeats 4000000 in
set_option maxRecDepth 100000 in
theorem c_append (l : Launch) (dC : Nat → ClassId) (dI : Nat → Nat → Nat) (cA : ClassId) (a0 a1 a2 : Nat) (sz : Nat) (Z : Nat → Nat) (T K : Nat → Int64) (v : Nat) (hn : Z 2 < 32768) (hv : v < 256) : Met l yX0_append wX0_append ({ frames := 0, cells := 0, slots := 0, locals := 0 }) (va_Pc [.ref a0, .int (nI v)] (lmP dC dI cA a0 a1 a2 sz (Z, T, K))) (va_Qv (fun (u : lmU) => ∃ T1, u = (zu Z 2 (Z 2 + 1), T1, K) ∧ ∀ p, byt T1 p = if p = Z 2 then v else byt T p) (lmB dC dI cA a0 a1 a2 (va_A (lmW cA a0 a1 a2 (Z, T, K)) sz)) (va_A (lmW cA a0 a1 a2 (Z, T, K)) sz)) 0 0 (va_A (lmW cA a0 a1 a2 (Z, T, K)) sz) := by
  refine Met.ofW (cc := cX0_append) (maxL := 4) (ret := none) (by decide) rfl ?_
  intro p e s m args below meth c s₁ B hml hv
  obtain ⟨rfl, hsz, hP, hK, hD0⟩ := hv
  have hx := B.exec
  have hb := B.bytes
  have hr := B.returns
  have hts : ∀ w ∈ bw, w.before _ s = true := fun w h => atoms_spec (ws := wX0_append) B.pre w (bc w h)
  have hown : s.vm.findClass RX0 = some m.cls := findClass_of_methodNamed B.named
  have hlocks := B.notSynchronized
  subst hsz
  have hD := hD0.self (sz := s.heap.size)
  generalize hAe : va_A (lmW cA a0 a1 a2 (Z, T, K)) s.heap.size = A at hD ⊢
  have hA : ∀ q : Nat, s.heap.size ≤ q → A q := fun q h => by rw [← hAe]; exact Or.inr h
  have hS : va_S A s.heap s.heap [] := va_S.rf
  have hl := lv_entry ([.ref a0, .int (nI v)]) (n := 4) (Nat.le_of_ble_eq_true rfl)
  rw [lg_entry_eq]
  generalize (lg_sl ([.ref a0, .int (nI v)]) ++ List.replicate (4 - (lg_sl ([.ref a0, .int (nI v)])).length) Slot.unset).toArray = ls at hl ⊢
  have hl : lv_has ls 4 [(0, .ref a0), (1, .int (nI v))] := hl
  refine lv_aload_n hx hb dX0_append_0 rfl (lv_at hl 0 rfl) ?_
  refine va_get (D := (dC, dI)) (ci := 0) (v := .int (nI (Z 2))) (C := RX0) (T := TX0) (N := 16) hx hb hts inX0 hown hK hP 0 rfl rfl 2 (by decide) (hts _ fl_X0_19) (fun _ h9 => h9) rfl dX0_append_1 ?_
  refine lv_iconst (v := nI 3) hx hb dX0_append_4 (by decide) ?_
  refine lv_ishr hx hb dX0_append_5 ?_
  refine lv_topi (fun x_1 e_2 => ?_)
  obtain rfl : x_1 = nI ((Z 2) / 8) := e_2.trans (pk_shrN (by omega) _ 3 (by decide))
  refine lv_istore_n (lv' := [(2, .int (nI ((Z 2) / 8))), (0, .ref a0), (1, .int (nI v))]) hx hb dX0_append_6 rfl hl (by decide) rfl (fun ls hl => ?_)
  refine lv_iload_n hx hb dX0_append_7 rfl (lv_at hl 0 rfl) ?_
  refine lv_if_lt (tgt := 20) hx hb dX0_append_8 (by decide) (fun c_3 => ?_) (fun c_3 => ?_)
  · have c_3 := (nI_ltI (a := (Z 2) / 8) (b := 0) (by omega) (by omega)).mp c_3
    exact W.vret hx hb hr (fun t ht hW => ⟨⟨(Z, T, K), rfl, (by omega), by rw [ht]; exact hP, va_K.moved hW.alike hK, hD⟩, hS.F ht⟩) hS.2.2 dX0_append_20
  · have c_3 := mt (nI_ltI (a := (Z 2) / 8) (b := 0) (by omega) (by omega)).mpr c_3
    refine lv_iload_n hx hb dX0_append_11 rfl (lv_at hl 0 rfl) ?_
    refine lv_aload_n hx hb dX0_append_12 rfl (lv_at hl 1 rfl) ?_
    refine va_get (D := (dC, dI)) (ci := 0) (v := .ref a1) (C := RX0) (T := TX0) (N := 16) hx hb hts inX0 hown hK hP 0 rfl rfl 0 (by decide) (hts _ fl_X0_9) (fun _ h9 => h9) rfl dX0_append_13 ?_
    refine va_alen hx hb hK hP 1 0 rfl rfl (v := nI 4096) rfl dX0_append_16 ?_
    refine lv_icmp_lt (tgt := 21) hx hb dX0_append_17 (by decide) (fun c_4 => ?_) (fun c_4 => ?_)
    · have c_4 := (nI_ltI (a := (Z 2) / 8) (b := 4096) (by omega) (by omega)).mp c_4
      refine lv_aload_n hx hb dX0_append_21 rfl (lv_at hl 1 rfl) ?_
      refine va_get (D := (dC, dI)) (ci := 0) (v := .int (nI (Z 2))) (C := RX0) (T := TX0) (N := 16) hx hb hts inX0 hown hK hP 0 rfl rfl 2 (by decide) (hts _ fl_X0_19) (fun _ h9 => h9) rfl dX0_append_22 ?_
      refine lv_bipush (v := nI 7) hx hb dX0_append_25 (by decide) ?_
      refine lv_iand hx hb dX0_append_27 ?_
      refine lv_topi (fun x_5 e_6 => ?_)
      obtain rfl : x_5 = nI ((Z 2) % 8) := e_6.trans (nI_mask (Z 2) 3 (by decide) (by decide))
      refine lv_iconst (v := nI 3) hx hb dX0_append_28 (by decide) ?_
      refine lv_ishl hx hb dX0_append_29 ?_
      refine lv_topi (fun x_7 e_8 => ?_)
      obtain rfl : x_7 = nI (((Z 2) % 8) * 8) := e_8.trans (pk_shlN _ 3 (by decide) (by omega))
      refine lv_istore_n (lv' := [(3, .int (nI (((Z 2) % 8) * 8))), (2, .int (nI ((Z 2) / 8))), (0, .ref a0), (1, .int (nI v))]) hx hb dX0_append_30 rfl hl (by decide) rfl (fun ls hl => ?_)
      refine lv_aload_n hx hb dX0_append_31 rfl (lv_at hl 2 rfl) ?_
      refine va_get (D := (dC, dI)) (ci := 0) (v := .ref a1) (C := RX0) (T := TX0) (N := 16) hx hb hts inX0 hown hK hP 0 rfl rfl 0 (by decide) (hts _ fl_X0_9) (fun _ h9 => h9) rfl dX0_append_32 ?_
      refine lv_iload_n hx hb dX0_append_35 rfl (lv_at hl 1 rfl) ?_
      refine lv_aload_n hx hb dX0_append_36 rfl (lv_at hl 2 rfl) ?_
      refine va_get (D := (dC, dI)) (ci := 0) (v := .ref a1) (C := RX0) (T := TX0) (N := 16) hx hb hts inX0 hown hK hP 0 rfl rfl 0 (by decide) (hts _ fl_X0_9) (fun _ h9 => h9) rfl dX0_append_37 ?_
      refine lv_iload_n hx hb dX0_append_40 rfl (lv_at hl 1 rfl) ?_
      refine va_lald hx hb hK hP 1 0 rfl rfl (vp_in_nI (by omega) (by decide)) dX0_append_41 ?_
      refine lv_topl (fun x_9 e_10 => ?_)
      obtain rfl : x_9 = lN (tn (T ((Z 2) / 8))) := e_10.trans (by rw [nI_clamp (by omega), tn_lN])
      refine lv_ldc2 (v := lN 255) hx hb hown (hts _ cn_X0_83) dX0_append_42 ?_
      refine lv_iload_n hx hb dX0_append_45 rfl (lv_at hl 0 rfl) ?_
      refine lv_lshl (v := lN (255 * 2 ^ (((Z 2) % 8) * 8))) hx hb dX0_append_46 (wb_shl _ (by omega)) ?_
      refine lv_ldc2 (v := (-1)) hx hb hown (hts _ cn_X0_88) dX0_append_47 ?_
      refine lv_lxor hx hb dX0_append_50 ?_
      refine lv_land hx hb dX0_append_51 ?_
      refine lv_iload_n hx hb dX0_append_52 rfl (lv_at hl 3 rfl) ?_
      refine lv_i2l (v := lN v) hx hb dX0_append_53 (nI_l (by omega)) ?_
      refine lv_ldc2 (v := lN 255) hx hb hown (hts _ cn_X0_83) dX0_append_54 ?_
      refine lv_land hx hb dX0_append_57 ?_
      refine lv_topl (fun x_11 e_12 => ?_)
      obtain rfl : x_11 = lN v := e_12.trans (by have h := wb_mask (n := v) (k := 8) (by omega) (by decide); rw [Nat.mod_eq_of_lt (show v < 2 ^ 8 by omega)] at h; exact h)
      refine lv_iload_n hx hb dX0_append_58 rfl (lv_at hl 0 rfl) ?_
      refine lv_lshl (v := lN (v * 2 ^ (((Z 2) % 8) * 8))) hx hb dX0_append_59 (wb_shl _ (by omega)) ?_
      refine lv_lor hx hb dX0_append_60 ?_
      refine va_last hx hb hK hP hD hS 1 0 rfl rfl (vp_in_nI (by omega) (by decide)) dX0_append_61 (fun H locs hP hD hS => ?_)
      rw [nI_clamp (by omega)] at hP hD
      have hP : va_P (dC, dI) vwCl (lmW cA a0 a1 a2 (Z, (vp_updL T ((Z 2) / 8) (((lN (tn (T ((Z 2) / 8)))) &&& ((lN (255 * 2 ^ (((Z 2) % 8) * 8))) ^^^ ((-1)))) ||| (lN (v * 2 ^ (((Z 2) % 8) * 8))))), K)) H := hP
      have hD : va_D A (lmW cA a0 a1 a2 (Z, (vp_updL T ((Z 2) / 8) (((lN (tn (T ((Z 2) / 8)))) &&& ((lN (255 * 2 ^ (((Z 2) % 8) * 8))) ^^^ ((-1)))) ||| (lN (v * 2 ^ (((Z 2) % 8) * 8))))), K)) := hD
      refine lv_aload_n hx hb dX0_append_62 rfl (lv_at hl 2 rfl) ?_
      refine lv_dup hx hb dX0_append_63 rfl ?_
      refine va_get (D := (dC, dI)) (ci := 0) (v := .int (nI (Z 2))) (C := RX0) (T := TX0) (N := 16) hx hb hts inX0 hown hK hP 0 rfl rfl 2 (by decide) (hts _ fl_X0_19) (fun _ h9 => h9) rfl dX0_append_64 ?_
      refine lv_iconst (v := nI 1) hx hb dX0_append_67 (by decide) ?_
      refine lv_iadd hx hb dX0_append_68 ?_
      refine lv_topi (fun x_13 e_14 => ?_)
      obtain rfl : x_13 = nI (Z 2 + 1) := e_14.trans (nI_add (Z 2) 1)
      refine va_put (D := (dC, dI)) (ci := 0) (v := .int (nI (Z 2 + 1))) (ty := .int) (C := RX0) (T := TX0) (N := 16) hx hb hts inX0 tyX0 okX0 nmX0 hown hK hP hD hS 0 rfl rfl 2 (by decide) (hts _ fl_X0_19) (fun _ h9 => h9) rfl (by decide +kernel) rfl rfl (Nat.le_of_ble_eq_true rfl) dX0_append_69 (fun H locs hP hD hS => ?_)
      have hP : va_P (dC, dI) vwCl (lmW cA a0 a1 a2 ((zu Z 2 (Z 2 + 1)), (vp_updL T ((Z 2) / 8) (((lN (tn (T ((Z 2) / 8)))) &&& ((lN (255 * 2 ^ (((Z 2) % 8) * 8))) ^^^ ((-1)))) ||| (lN (v * 2 ^ (((Z 2) % 8) * 8))))), K)) H := hP
      have hD : va_D A (lmW cA a0 a1 a2 ((zu Z 2 (Z 2 + 1)), (vp_updL T ((Z 2) / 8) (((lN (tn (T ((Z 2) / 8)))) &&& ((lN (255 * 2 ^ (((Z 2) % 8) * 8))) ^^^ ((-1)))) ||| (lN (v * 2 ^ (((Z 2) % 8) * 8))))), K)) := hD
      exact W.vret hx hb hr (fun t ht hW => ⟨⟨((zu Z 2 (Z 2 + 1)), (vp_updL T ((Z 2) / 8) (((lN (tn (T ((Z 2) / 8)))) &&& ((lN (255 * 2 ^ (((Z 2) % 8) * 8))) ^^^ ((-1)))) ||| (lN (v * 2 ^ (((Z 2) % 8) * 8))))), K), rfl, ⟨_, rfl, app_byt T (Z 2) v hv⟩, by rw [ht]; exact hP, va_K.moved hW.alike hK, hD⟩, hS.F ht⟩) hS.2.2 dX0_append_72
    · have c_4 := mt (nI_ltI (a := (Z 2) / 8) (b := 4096) (by omega) (by omega)).mpr c_4
      exact W.vret hx hb hr (fun t ht hW => ⟨⟨(Z, T, K), rfl, (by omega), by rw [ht]; exact hP, va_K.moved hW.alike hK, hD⟩, hS.F ht⟩) hS.2.2 dX0_append_20
set_option maxHeartbeats 4000000 in
set_option maxRecDepth 100000 in
theorem c_passBlank (l : Launch) (dC : Nat → ClassId) (dI : Nat → Nat → Nat) (cA : ClassId) (a0 a1 a2 : Nat) (sz : Nat) (Z : Nat → Nat) (T K : Nat → Int64) (stop : Nat) (hn : Z 2 ≤ 32768) (hst : stop < 2 ^ 29) (ha : Z 3 < 2 ^ 29) : Met l yX0_passBlank wX0_passBlank ({ frames := 3, cells := 0, slots := 0, locals := 67 }) (va_Pc [.ref a0, .int (nI stop)] (lmP dC dI cA a0 a1 a2 sz (Z, T, K))) (va_Qi (fun (r : Int32) (u : lmU) => r = nI 0 ∧ u = (pbZ T Z stop, T, K)) (lmB dC dI cA a0 a1 a2 (va_A (lmW cA a0 a1 a2 (Z, T, K)) sz)) (va_A (lmW cA a0 a1 a2 (Z, T, K)) sz)) 0 0 (va_A (lmW cA a0 a1 a2 (Z, T, K)) sz) := by
  refine Met.ofW (cc := cX0_passBlank) (maxL := 2) (ret := (some .int)) (by decide) rfl ?_
  intro p e s m args below meth c s₁ B hml hv
  obtain ⟨rfl, hsz, hP, hK, hD0⟩ := hv
  have hx := B.exec
  have hb := B.bytes
  have hr := B.returns
  have hts : ∀ w ∈ bw, w.before _ s = true := fun w h => atoms_spec (ws := wX0_passBlank) B.pre w (bc w h)
  have hown : s.vm.findClass RX0 = some m.cls := findClass_of_methodNamed B.named
  have hlocks := B.notSynchronized
  subst hsz
  have hD := hD0.self (sz := s.heap.size)
  generalize hAe : va_A (lmW cA a0 a1 a2 (Z, T, K)) s.heap.size = A at hD ⊢
  have hA : ∀ q : Nat, s.heap.size ≤ q → A q := fun q h => by rw [← hAe]; exact Or.inr h
  have hS : va_S A s.heap s.heap [] := va_S.rf
  have hl := lv_entry ([.ref a0, .int (nI stop)]) (n := 2) (Nat.le_of_ble_eq_true rfl)
  rw [lg_entry_eq]
  generalize (lg_sl ([.ref a0, .int (nI stop)]) ++ List.replicate (2 - (lg_sl ([.ref a0, .int (nI stop)])).length) Slot.unset).toArray = ls at hl ⊢
  have hl : lv_has ls 2 [(0, .ref a0), (1, .int (nI stop))] := hl
  refine lv_aload_n hx hb dX0_passBlank_0 rfl (lv_at hl 0 rfl) ?_
  refine lv_iload_n hx hb dX0_passBlank_1 rfl (lv_at hl 1 rfl) ?_
  refine lm_calli (va_runV (As := [.int (nI stop)]) (rest := []) ⟨hx, hb, hml, hown, hts⟩ (c_pass l dC dI cA a0 a1 a2 s.heap.size Z T K stop (show Z 2 ≤ 32768 by omega) (show stop < 2 ^ 29 by omega) (show Z 3 < 2 ^ 29 by omega)) (cwV 1 hts (gV (fun _ h => h) ml_X0_45 im_X0_pass se_X0_pass ini_X0 co_X0_pass) rfl rfl rfl pd_X0_pass ⟨Nat.le_of_ble_eq_true rfl, Nat.le_of_ble_eq_true rfl⟩) (lm_preS hK hP hD) rfl rfl hl.1 rfl (lv_room (Nat.le_of_ble_eq_true rfl)) dX0_passBlank_2 ⟨Nat.zero_le _, Nat.zero_le _⟩) hD hS hA (fun r_3 u_2 H locs q_1 hP hD hS => ?_)
  obtain ⟨a_4, li_5, n_6, hp_7, rfl, rfl⟩ := q_1
  have hp_7 : pss T (Z 2) stop (Z 3) (Z 4) 0 = (a_4, li_5, n_6) := hp_7
  have := pss_b hp_7
  have hP : va_P (dC, dI) vwCl (lmW cA a0 a1 a2 ((zu (zu Z 3 a_4) 4 li_5), T, K)) H := hP
  have hD : va_D A (lmW cA a0 a1 a2 ((zu (zu Z 3 a_4) 4 li_5), T, K)) := hD
  refine lv_pop hx hb dX0_passBlank_5 rfl ?_
  refine lv_aload_n hx hb dX0_passBlank_6 rfl (lv_at hl 0 rfl) ?_
  refine lv_iconst (v := nI 1) hx hb dX0_passBlank_7 (by decide) ?_
  refine va_put (D := (dC, dI)) (ci := 0) (v := .int (nI 1)) (ty := .boolean) (C := RX0) (T := TX0) (N := 16) hx hb hts inX0 tyX0 okX0 nmX0 hown hK hP hD hS 0 rfl rfl 11 (by decide) (hts _ fl_X0_93) (fun _ h9 => h9) rfl (by decide +kernel) rfl rfl (Nat.le_of_ble_eq_true rfl) dX0_passBlank_8 (fun H locs hP hD hS => ?_)
  have hP : va_P (dC, dI) vwCl (lmW cA a0 a1 a2 ((zu (zu (zu Z 3 a_4) 4 li_5) 11 1), T, K)) H := hP
  have hD : va_D A (lmW cA a0 a1 a2 ((zu (zu (zu Z 3 a_4) 4 li_5) 11 1), T, K)) := hD
  refine lv_iconst (v := nI 0) hx hb dX0_passBlank_11 (by decide) ?_
  exact W.iret (v := nI 0) hx hb hr (fun t ht hW => ⟨⟨_, ((zu (zu (zu Z 3 a_4) 4 li_5) 11 1), T, K), rfl, ⟨rfl, by rw [pbZ, psZ, hp_7]⟩, by rw [ht]; exact hP, va_K.moved hW.alike hK, hD⟩, hS.F ht⟩) hS.2.2 dX0_passBlank_12
set_option maxHeartbeats 4000000 in
set_option maxRecDepth 100000 in
theorem c_closeLine (l : Launch) (dC : Nat → ClassId) (dI : Nat → Nat → Nat) (cA : ClassId) (a0 a1 a2 : Nat) (sz : Nat) (Z : Nat → Nat) (T K : Nat → Int64)  (h10 : Z 10 < 2 ^ 29) (h5 : Z 5 < 2 ^ 29) : Met l yX0_closeLine wX0_closeLine ({ frames := 1, cells := 0, slots := 0, locals := 22 }) (va_Pc [.ref a0] (lmP dC dI cA a0 a1 a2 sz (Z, T, K))) (va_Qi (fun (r : Int32) (u : lmU) => r = nI (clZ Z).2 ∧ u = ((clZ Z).1, T, K)) (lmB dC dI cA a0 a1 a2 (va_A (lmW cA a0 a1 a2 (Z, T, K)) sz)) (va_A (lmW cA a0 a1 a2 (Z, T, K)) sz)) 0 0 (va_A (lmW cA a0 a1 a2 (Z, T, K)) sz) := by
  refine Met.ofW (cc := cX0_closeLine) (maxL := 1) (ret := (some .int)) (by decide) rfl ?_
  intro p e s m args below meth c s₁ B hml hv
  obtain ⟨rfl, hsz, hP, hK, hD0⟩ := hv
  have hx := B.exec
  have hb := B.bytes
  have hr := B.returns
  have hts : ∀ w ∈ bw, w.before _ s = true := fun w h => atoms_spec (ws := wX0_closeLine) B.pre w (bc w h)
  have hown : s.vm.findClass RX0 = some m.cls := findClass_of_methodNamed B.named
  have hlocks := B.notSynchronized
  subst hsz
  have hD := hD0.self (sz := s.heap.size)
  generalize hAe : va_A (lmW cA a0 a1 a2 (Z, T, K)) s.heap.size = A at hD ⊢
  have hA : ∀ q : Nat, s.heap.size ≤ q → A q := fun q h => by rw [← hAe]; exact Or.inr h
  have hS : va_S A s.heap s.heap [] := va_S.rf
  have hl := lv_entry ([.ref a0]) (n := 1) (Nat.le_of_ble_eq_true rfl)
  rw [lg_entry_eq]
  generalize (lg_sl ([.ref a0]) ++ List.replicate (1 - (lg_sl ([.ref a0])).length) Slot.unset).toArray = ls at hl ⊢
  have hl : lv_has ls 1 [(0, .ref a0)] := hl
  refine lv_aload_n hx hb dX0_closeLine_0 rfl (lv_at hl 0 rfl) ?_
  refine va_get (D := (dC, dI)) (ci := 0) (v := .int (nI (Z 10))) (C := RX0) (T := TX0) (N := 16) hx hb hts inX0 hown hK hP 0 rfl rfl 10 (by decide) (hts _ fl_X0_90) (fun _ h9 => h9) rfl dX0_closeLine_1 ?_
  refine lv_if_ne (tgt := 9) hx hb dX0_closeLine_4 (by decide) (fun c_1 => ?_) (fun c_1 => ?_)
  · have c_1 := mt (nI_eq (a := Z 10) (b := 0) (by omega) (by omega)).mpr c_1
    refine lv_aload_n hx hb dX0_closeLine_9 rfl (lv_at hl 0 rfl) ?_
    refine va_get (D := (dC, dI)) (ci := 0) (v := .int (nI (Z 5))) (C := RX0) (T := TX0) (N := 16) hx hb hts inX0 hown hK hP 0 rfl rfl 5 (by decide) (hts _ fl_X0_62) (fun _ h9 => h9) rfl dX0_closeLine_10 ?_
    refine lv_sipush (v := nI 20000) hx hb dX0_closeLine_13 (by decide) ?_
    refine lv_icmp_lt (tgt := 30) hx hb dX0_closeLine_16 (by decide) (fun c_2 => ?_) (fun c_2 => ?_)
    · have c_2 := (nI_ltI (a := Z 5) (b := 20000) (by omega) (by omega)).mp c_2
      refine lv_aload_n hx hb dX0_closeLine_30 rfl (lv_at hl 0 rfl) ?_
      refine lv_dup hx hb dX0_closeLine_31 rfl ?_
      refine va_get (D := (dC, dI)) (ci := 0) (v := .int (nI (Z 5))) (C := RX0) (T := TX0) (N := 16) hx hb hts inX0 hown hK hP 0 rfl rfl 5 (by decide) (hts _ fl_X0_62) (fun _ h9 => h9) rfl dX0_closeLine_32 ?_
      refine lv_iconst (v := nI 1) hx hb dX0_closeLine_35 (by decide) ?_
      refine lv_iadd hx hb dX0_closeLine_36 ?_
      refine lv_topi (fun x_3 e_4 => ?_)
      obtain rfl : x_3 = nI (Z 5 + 1) := e_4.trans (nI_add (Z 5) 1)
      refine va_put (D := (dC, dI)) (ci := 0) (v := .int (nI (Z 5 + 1))) (ty := .int) (C := RX0) (T := TX0) (N := 16) hx hb hts inX0 tyX0 okX0 nmX0 hown hK hP hD hS 0 rfl rfl 5 (by decide) (hts _ fl_X0_62) (fun _ h9 => h9) rfl (by decide +kernel) rfl rfl (Nat.le_of_ble_eq_true rfl) dX0_closeLine_37 (fun H locs hP hD hS => ?_)
      have hP : va_P (dC, dI) vwCl (lmW cA a0 a1 a2 ((zu Z 5 (Z 5 + 1)), T, K)) H := hP
      have hD : va_D A (lmW cA a0 a1 a2 ((zu Z 5 (Z 5 + 1)), T, K)) := hD
      refine lv_aload_n hx hb dX0_closeLine_40 rfl (lv_at hl 0 rfl) ?_
      refine va_get (D := (dC, dI)) (ci := 0) (v := .int (nI (Z 10))) (C := RX0) (T := TX0) (N := 16) hx hb hts inX0 hown hK hP 0 rfl rfl 10 (by decide) (hts _ fl_X0_90) (fun _ h9 => h9) rfl dX0_closeLine_41 ?_
      refine lv_sipush (v := nI 8000) hx hb dX0_closeLine_44 (by decide) ?_
      refine lv_icmp_le (tgt := 61) hx hb dX0_closeLine_47 (by decide) (fun c_5 => ?_) (fun c_5 => ?_)
      · have c_5 := (nI_leI (a := Z 10) (b := 8000) (by omega) (by omega)).mp c_5
        refine lv_aload_n hx hb dX0_closeLine_61 rfl (lv_at hl 0 rfl) ?_
        refine lv_aload_n hx hb dX0_closeLine_62 rfl (lv_at hl 0 rfl) ?_
        refine va_get (D := (dC, dI)) (ci := 0) (v := .int (nI (Z 10))) (C := RX0) (T := TX0) (N := 16) hx hb hts inX0 hown hK hP 0 rfl rfl 10 (by decide) (hts _ fl_X0_90) (fun _ h9 => h9) rfl dX0_closeLine_63 ?_
        refine va_put (D := (dC, dI)) (ci := 0) (v := .int (nI (Z 10))) (ty := .int) (C := RX0) (T := TX0) (N := 16) hx hb hts inX0 tyX0 okX0 nmX0 hown hK hP hD hS 0 rfl rfl 9 (by decide) (hts _ fl_X0_32) (fun _ h9 => h9) rfl (by decide +kernel) rfl rfl (Nat.le_of_ble_eq_true rfl) dX0_closeLine_66 (fun H locs hP hD hS => ?_)
        have hP : va_P (dC, dI) vwCl (lmW cA a0 a1 a2 ((zu (zu Z 5 (Z 5 + 1)) 9 (Z 10)), T, K)) H := hP
        have hD : va_D A (lmW cA a0 a1 a2 ((zu (zu Z 5 (Z 5 + 1)) 9 (Z 10)), T, K)) := hD
        refine lv_iconst (v := nI 0) hx hb dX0_closeLine_69 (by decide) ?_
        exact W.iret (v := nI 0) hx hb hr (fun t ht hW => ⟨⟨_, ((zu (zu Z 5 (Z 5 + 1)) 9 (Z 10)), T, K), rfl, ⟨by rw [clZ, if_neg (by omega), if_neg (by omega), if_neg (by omega)], by rw [clZ, if_neg (by omega), if_neg (by omega), if_neg (by omega)]⟩, by rw [ht]; exact hP, va_K.moved hW.alike hK, hD⟩, hS.F ht⟩) hS.2.2 dX0_closeLine_70
      · have c_5 := mt (nI_leI (a := Z 10) (b := 8000) (by omega) (by omega)).mpr c_5
        refine lv_aload_n hx hb dX0_closeLine_50 rfl (lv_at hl 0 rfl) ?_
        refine lv_aload_n hx hb dX0_closeLine_51 rfl (lv_at hl 0 rfl) ?_
        refine va_get (D := (dC, dI)) (ci := 0) (v := .int (nI (Z 13))) (C := RX0) (T := TX0) (N := 16) hx hb hts inX0 hown hK hP 0 rfl rfl 13 (by decide) (hts _ fl_X0_109) (fun _ h9 => h9) rfl dX0_closeLine_52 ?_
        refine lv_bipush (v := nI 21) hx hb dX0_closeLine_55 (by decide) ?_
        refine lm_calli (va_runV (As := [.int (nI (Z 13)), .int (nI 21)]) (rest := []) ⟨hx, hb, hml, hown, hts⟩ (c_stopAt l dC dI cA a0 a1 a2 H.size (zu Z 5 (Z 5 + 1)) T K (Z 13) 21 ) (cwV 2 hts (gV (fun _ h => h) ml_X0_105 im_X0_stopAt se_X0_stopAt ini_X0 co_X0_stopAt) rfl rfl rfl pd_X0_stopAt ⟨Nat.le_of_ble_eq_true rfl, Nat.le_of_ble_eq_true rfl⟩) (lm_preS hK hP hD) rfl rfl hl.1 rfl (lv_room (Nat.le_of_ble_eq_true rfl)) dX0_closeLine_57 ⟨Nat.zero_le _, Nat.zero_le _⟩) hD hS hA (fun r_8 u_7 H locs q_6 hP hD hS => ?_)
        obtain ⟨rfl, rfl⟩ := q_6
        have hP : va_P (dC, dI) vwCl (lmW cA a0 a1 a2 ((zu (zu (zu Z 5 (Z 5 + 1)) 7 ((Z 13))) 8 1), T, K)) H := hP
        have hD : va_D A (lmW cA a0 a1 a2 ((zu (zu (zu Z 5 (Z 5 + 1)) 7 ((Z 13))) 8 1), T, K)) := hD
        exact W.iret (v := nI 21) hx hb hr (fun t ht hW => ⟨⟨_, ((zu (zu (zu Z 5 (Z 5 + 1)) 7 ((Z 13))) 8 1), T, K), rfl, ⟨by rw [clZ, if_neg (by omega), if_neg (by omega), if_pos (by omega)], by rw [clZ, if_neg (by omega), if_neg (by omega), if_pos (by omega)]⟩, by rw [ht]; exact hP, va_K.moved hW.alike hK, hD⟩, hS.F ht⟩) hS.2.2 dX0_closeLine_60
    · have c_2 := mt (nI_ltI (a := Z 5) (b := 20000) (by omega) (by omega)).mpr c_2
      refine lv_aload_n hx hb dX0_closeLine_19 rfl (lv_at hl 0 rfl) ?_
      refine lv_aload_n hx hb dX0_closeLine_20 rfl (lv_at hl 0 rfl) ?_
      refine va_get (D := (dC, dI)) (ci := 0) (v := .int (nI (Z 12))) (C := RX0) (T := TX0) (N := 16) hx hb hts inX0 hown hK hP 0 rfl rfl 12 (by decide) (hts _ fl_X0_102) (fun _ h9 => h9) rfl dX0_closeLine_21 ?_
      refine lv_bipush (v := nI 21) hx hb dX0_closeLine_24 (by decide) ?_
      refine lm_calli (va_runV (As := [.int (nI (Z 12)), .int (nI 21)]) (rest := []) ⟨hx, hb, hml, hown, hts⟩ (c_stopAt l dC dI cA a0 a1 a2 s.heap.size Z T K (Z 12) 21 ) (cwV 2 hts (gV (fun _ h => h) ml_X0_105 im_X0_stopAt se_X0_stopAt ini_X0 co_X0_stopAt) rfl rfl rfl pd_X0_stopAt ⟨Nat.le_of_ble_eq_true rfl, Nat.le_of_ble_eq_true rfl⟩) (lm_preS hK hP hD) rfl rfl hl.1 rfl (lv_room (Nat.le_of_ble_eq_true rfl)) dX0_closeLine_26 ⟨Nat.zero_le _, Nat.zero_le _⟩) hD hS hA (fun r_11 u_10 H locs q_9 hP hD hS => ?_)
      obtain ⟨rfl, rfl⟩ := q_9
      have hP : va_P (dC, dI) vwCl (lmW cA a0 a1 a2 ((zu (zu Z 7 ((Z 12))) 8 1), T, K)) H := hP
      have hD : va_D A (lmW cA a0 a1 a2 ((zu (zu Z 7 ((Z 12))) 8 1), T, K)) := hD
      exact W.iret (v := nI 21) hx hb hr (fun t ht hW => ⟨⟨_, ((zu (zu Z 7 ((Z 12))) 8 1), T, K), rfl, ⟨by rw [clZ, if_neg (by omega), if_pos (by omega)], by rw [clZ, if_neg (by omega), if_pos (by omega)]⟩, by rw [ht]; exact hP, va_K.moved hW.alike hK, hD⟩, hS.F ht⟩) hS.2.2 dX0_closeLine_29
  · have c_1 := (nI_eq (a := Z 10) (b := 0) (by omega) (by omega)).mp c_1
    refine lv_iconst (v := nI 0) hx hb dX0_closeLine_7 (by decide) ?_
    exact W.iret (v := nI 0) hx hb hr (fun t ht hW => ⟨⟨_, (Z, T, K), rfl, ⟨by rw [clZ, if_pos (by omega)], by rw [clZ, if_pos (by omega)]⟩, by rw [ht]; exact hP, va_K.moved hW.alike hK, hD⟩, hS.F ht⟩) hS.2.2 dX0_closeLine_8
end
section
set_option maxHeartbeats 4000000 in
set_option maxRecDepth 100000 in
theorem c_addToken (l : Launch) (dC : Nat → ClassId) (dI : Nat → Nat → Nat) (cA : ClassId) (a0 a1 a2 : Nat) (sz : Nat) (Z : Nat → Nat) (T K : Nat → Int64) (kd : Nat) (stop : Nat) (hn : Z 2 ≤ 32768) (hst : stop ≤ Z 2) (ha : Z 3 ≤ Z 2) (h4 : Z 4 < 65536) (h10 : Z 10 < 2 ^ 29) (h11 : Z 11 ≤ 1) (hkd : kd < 16) : Met l yX0_addToken wX0_addToken ({ frames := 3, cells := 0, slots := 0, locals := 67 }) (va_Pc [.ref a0, .int (nI kd), .int (nI stop)] (lmP dC dI cA a0 a1 a2 sz (Z, T, K))) (va_Qi (fun (r : Int32) (u : lmU) => r = nI 0 ∧ u = (adZ T Z stop, T, adK T Z K kd stop)) (lmB dC dI cA a0 a1 a2 (va_A (lmW cA a0 a1 a2 (Z, T, K)) sz)) (va_A (lmW cA a0 a1 a2 (Z, T, K)) sz)) 0 0 (va_A (lmW cA a0 a1 a2 (Z, T, K)) sz) := by
  refine Met.ofW (cc := cX0_addToken) (maxL := 6) (ret := (some .int)) (by decide) rfl ?_
  intro p e s m args below meth c s₁ B hml hv
  obtain ⟨rfl, hsz, hP, hK, hD0⟩ := hv
  have hx := B.exec
  have hb := B.bytes
  have hr := B.returns
  have hts : ∀ w ∈ bw, w.before _ s = true := fun w h => atoms_spec (ws := wX0_addToken) B.pre w (bc w h)
  have hown : s.vm.findClass RX0 = some m.cls := findClass_of_methodNamed B.named
  have hlocks := B.notSynchronized
  subst hsz
  have hD := hD0.self (sz := s.heap.size)
  generalize hAe : va_A (lmW cA a0 a1 a2 (Z, T, K)) s.heap.size = A at hD ⊢
  have hA : ∀ q : Nat, s.heap.size ≤ q → A q := fun q h => by rw [← hAe]; exact Or.inr h
  have hS : va_S A s.heap s.heap [] := va_S.rf
  have hl := lv_entry ([.ref a0, .int (nI kd), .int (nI stop)]) (n := 6) (Nat.le_of_ble_eq_true rfl)
  rw [lg_entry_eq]
  generalize (lg_sl ([.ref a0, .int (nI kd), .int (nI stop)]) ++ List.replicate (6 - (lg_sl ([.ref a0, .int (nI kd), .int (nI stop)])).length) Slot.unset).toArray = ls at hl ⊢
  have hl : lv_has ls 6 [(0, .ref a0), (1, .int (nI kd)), (2, .int (nI stop))] := hl
  refine lv_aload_n hx hb dX0_addToken_0 rfl (lv_at hl 0 rfl) ?_
  refine va_get (D := (dC, dI)) (ci := 0) (v := .int (nI (Z 3))) (C := RX0) (T := TX0) (N := 16) hx hb hts inX0 hown hK hP 0 rfl rfl 3 (by decide) (hts _ fl_X0_39) (fun _ h9 => h9) rfl dX0_addToken_1 ?_
  refine lv_istore_n (lv' := [(3, .int (nI (Z 3))), (0, .ref a0), (1, .int (nI kd)), (2, .int (nI stop))]) hx hb dX0_addToken_4 rfl hl (by decide) rfl (fun ls hl => ?_)
  refine lv_aload_n hx hb dX0_addToken_5 rfl (lv_at hl 1 rfl) ?_
  refine va_get (D := (dC, dI)) (ci := 0) (v := .int (nI (Z 4))) (C := RX0) (T := TX0) (N := 16) hx hb hts inX0 hown hK hP 0 rfl rfl 4 (by decide) (hts _ fl_X0_68) (fun _ h9 => h9) rfl dX0_addToken_6 ?_
  refine lv_istore (lv' := [(4, .int (nI (Z 4))), (3, .int (nI (Z 3))), (0, .ref a0), (1, .int (nI kd)), (2, .int (nI stop))]) hx hb dX0_addToken_9 hl (by decide) rfl (fun ls hl => ?_)
  refine lv_aload_n hx hb dX0_addToken_11 rfl (lv_at hl 2 rfl) ?_
  refine lv_iload_n hx hb dX0_addToken_12 rfl (lv_at hl 4 rfl) ?_
  refine lm_calli (va_runV (As := [.int (nI stop)]) (rest := []) ⟨hx, hb, hml, hown, hts⟩ (c_pass l dC dI cA a0 a1 a2 s.heap.size Z T K stop (show Z 2 ≤ 32768 by omega) (show stop < 2 ^ 29 by omega) (show Z 3 < 2 ^ 29 by omega)) (cwV 1 hts (gV (fun _ h => h) ml_X0_45 im_X0_pass se_X0_pass ini_X0 co_X0_pass) rfl rfl rfl pd_X0_pass ⟨Nat.le_of_ble_eq_true rfl, Nat.le_of_ble_eq_true rfl⟩) (lm_preS hK hP hD) rfl rfl hl.1 rfl (lv_room (Nat.le_of_ble_eq_true rfl)) dX0_addToken_13 ⟨Nat.zero_le _, Nat.zero_le _⟩) hD hS hA (fun r_3 u_2 H locs q_1 hP hD hS => ?_)
  obtain ⟨a_4, li_5, n_6, hp_7, rfl, rfl⟩ := q_1
  have hp_7 : pss T (Z 2) stop (Z 3) (Z 4) 0 = (a_4, li_5, n_6) := hp_7
  have := pss_b hp_7
  have hP : va_P (dC, dI) vwCl (lmW cA a0 a1 a2 ((zu (zu Z 3 a_4) 4 li_5), T, K)) H := hP
  have hD : va_D A (lmW cA a0 a1 a2 ((zu (zu Z 3 a_4) 4 li_5), T, K)) := hD
  refine lv_istore (lv' := [(5, .int (nI n_6)), (4, .int (nI (Z 4))), (3, .int (nI (Z 3))), (0, .ref a0), (1, .int (nI kd)), (2, .int (nI stop))]) hx hb dX0_addToken_16 hl (by decide) rfl (fun ls hl => ?_)
  refine lv_aload_n hx hb dX0_addToken_18 rfl (lv_at hl 3 rfl) ?_
  refine va_get (D := (dC, dI)) (ci := 0) (v := .int (nI (Z 10))) (C := RX0) (T := TX0) (N := 16) hx hb hts inX0 hown hK hP 0 rfl rfl 10 (by decide) (hts _ fl_X0_90) (fun _ h9 => h9) rfl dX0_addToken_19 ?_
  refine lv_if_ne (tgt := 31) hx hb dX0_addToken_22 (by decide) (fun c_8 => ?_) (fun c_8 => ?_)
  · have c_8 := mt (nI_eq (a := Z 10) (b := 0) (by omega) (by omega)).mpr c_8
    refine lv_aload_n hx hb dX0_addToken_31 rfl (lv_at hl 3 rfl) ?_
    refine va_get (D := (dC, dI)) (ci := 0) (v := .int (nI (Z 10))) (C := RX0) (T := TX0) (N := 16) hx hb hts inX0 hown hK hP 0 rfl rfl 10 (by decide) (hts _ fl_X0_90) (fun _ h9 => h9) rfl dX0_addToken_32 ?_
    refine lv_if_lt (tgt := 100) hx hb dX0_addToken_35 (by decide) (fun c_9 => ?_) (fun c_9 => ?_)
    · have c_9 := (nI_ltI (a := Z 10) (b := 0) (by omega) (by omega)).mp c_9
      omega
    · have c_9 := mt (nI_ltI (a := Z 10) (b := 0) (by omega) (by omega)).mpr c_9
      refine lv_aload_n hx hb dX0_addToken_38 rfl (lv_at hl 3 rfl) ?_
      refine va_get (D := (dC, dI)) (ci := 0) (v := .int (nI (Z 10))) (C := RX0) (T := TX0) (N := 16) hx hb hts inX0 hown hK hP 0 rfl rfl 10 (by decide) (hts _ fl_X0_90) (fun _ h9 => h9) rfl dX0_addToken_39 ?_
      refine lv_aload_n hx hb dX0_addToken_42 rfl (lv_at hl 3 rfl) ?_
      refine va_get (D := (dC, dI)) (ci := 0) (v := .ref a2) (C := RX0) (T := TX0) (N := 16) hx hb hts inX0 hown hK hP 0 rfl rfl 1 (by decide) (hts _ fl_X0_13) (fun _ h9 => h9) rfl dX0_addToken_43 ?_
      refine va_alen hx hb hK hP 2 0 rfl rfl (v := nI 8000) rfl dX0_addToken_46 ?_
      refine lv_icmp_ge (tgt := 100) hx hb dX0_addToken_47 (by decide) (fun c_10 => ?_) (fun c_10 => ?_)
      · have c_10 := (nI_leI (a := 8000) (b := Z 10) (by omega) (by omega)).mp c_10
        refine lv_aload_n hx hb dX0_addToken_100 rfl (lv_at hl 3 rfl) ?_
        refine va_get (D := (dC, dI)) (ci := 0) (v := .int (nI (Z 10))) (C := RX0) (T := TX0) (N := 16) hx hb hts inX0 hown hK hP 0 rfl rfl 10 (by decide) (hts _ fl_X0_90) (fun _ h9 => h9) rfl dX0_addToken_101 ?_
        refine lv_sipush (v := nI 8000) hx hb dX0_addToken_104 (by decide) ?_
        refine lv_icmp_ne (tgt := 116) hx hb dX0_addToken_107 (by decide) (fun c_11 => ?_) (fun c_11 => ?_)
        · have c_11 := mt (nI_eq (a := Z 10) (b := 8000) (by omega) (by omega)).mpr c_11
          refine lv_aload_n hx hb dX0_addToken_116 rfl (lv_at hl 3 rfl) ?_
          refine lv_dup hx hb dX0_addToken_117 rfl ?_
          refine va_get (D := (dC, dI)) (ci := 0) (v := .int (nI (Z 10))) (C := RX0) (T := TX0) (N := 16) hx hb hts inX0 hown hK hP 0 rfl rfl 10 (by decide) (hts _ fl_X0_90) (fun _ h9 => h9) rfl dX0_addToken_118 ?_
          refine lv_iconst (v := nI 1) hx hb dX0_addToken_121 (by decide) ?_
          refine lv_iadd hx hb dX0_addToken_122 ?_
          refine lv_topi (fun x_12 e_13 => ?_)
          obtain rfl : x_12 = nI (Z 10 + 1) := e_13.trans (nI_add (Z 10) 1)
          refine va_put (D := (dC, dI)) (ci := 0) (v := .int (nI (Z 10 + 1))) (ty := .int) (C := RX0) (T := TX0) (N := 16) hx hb hts inX0 tyX0 okX0 nmX0 hown hK hP hD hS 0 rfl rfl 10 (by decide) (hts _ fl_X0_90) (fun _ h9 => h9) rfl (by decide +kernel) rfl rfl (Nat.le_of_ble_eq_true rfl) dX0_addToken_123 (fun H locs hP hD hS => ?_)
          have hP : va_P (dC, dI) vwCl (lmW cA a0 a1 a2 ((zu (zu (zu Z 3 a_4) 4 li_5) 10 (Z 10 + 1)), T, K)) H := hP
          have hD : va_D A (lmW cA a0 a1 a2 ((zu (zu (zu Z 3 a_4) 4 li_5) 10 (Z 10 + 1)), T, K)) := hD
          refine lv_aload_n hx hb dX0_addToken_126 rfl (lv_at hl 3 rfl) ?_
          refine lv_iconst (v := nI 0) hx hb dX0_addToken_127 (by decide) ?_
          refine va_put (D := (dC, dI)) (ci := 0) (v := .int (nI 0)) (ty := .boolean) (C := RX0) (T := TX0) (N := 16) hx hb hts inX0 tyX0 okX0 nmX0 hown hK hP hD hS 0 rfl rfl 11 (by decide) (hts _ fl_X0_93) (fun _ h9 => h9) rfl (by decide +kernel) rfl rfl (Nat.le_of_ble_eq_true rfl) dX0_addToken_128 (fun H locs hP hD hS => ?_)
          have hP : va_P (dC, dI) vwCl (lmW cA a0 a1 a2 ((zu (zu (zu (zu Z 3 a_4) 4 li_5) 10 (Z 10 + 1)) 11 0), T, K)) H := hP
          have hD : va_D A (lmW cA a0 a1 a2 ((zu (zu (zu (zu Z 3 a_4) 4 li_5) 10 (Z 10 + 1)) 11 0), T, K)) := hD
          refine lv_iconst (v := nI 0) hx hb dX0_addToken_131 (by decide) ?_
          have hP : va_P (dC, dI) vwCl (lmW cA a0 a1 a2 (adZ T Z stop, T, adK T Z K kd stop)) H := by rw [adZ, adK, psZ, hp_7, if_neg (by omega), if_neg (by omega), if_neg (by omega)]; exact hP
          have hD : va_D A (lmW cA a0 a1 a2 (adZ T Z stop, T, adK T Z K kd stop)) := by rw [adZ, adK, psZ, hp_7, if_neg (by omega), if_neg (by omega), if_neg (by omega)]; exact hD
          exact W.iret (v := nI 0) hx hb hr (fun t ht hW => ⟨⟨_, (adZ T Z stop, T, adK T Z K kd stop), rfl, ⟨rfl, rfl⟩, by rw [ht]; exact hP, va_K.moved hW.alike hK, hD⟩, hS.F ht⟩) hS.2.2 dX0_addToken_132
        · have c_11 := (nI_eq (a := Z 10) (b := 8000) (by omega) (by omega)).mp c_11
          refine lv_aload_n hx hb dX0_addToken_110 rfl (lv_at hl 3 rfl) ?_
          refine lv_iload hx hb dX0_addToken_111 (lv_at hl 1 rfl) ?_
          refine va_put (D := (dC, dI)) (ci := 0) (v := .int (nI (Z 4))) (ty := .int) (C := RX0) (T := TX0) (N := 16) hx hb hts inX0 tyX0 okX0 nmX0 hown hK hP hD hS 0 rfl rfl 13 (by decide) (hts _ fl_X0_109) (fun _ h9 => h9) rfl (by decide +kernel) rfl rfl (Nat.le_of_ble_eq_true rfl) dX0_addToken_113 (fun H locs hP hD hS => ?_)
          have hP : va_P (dC, dI) vwCl (lmW cA a0 a1 a2 ((zu (zu (zu Z 3 a_4) 4 li_5) 13 (Z 4)), T, K)) H := hP
          have hD : va_D A (lmW cA a0 a1 a2 ((zu (zu (zu Z 3 a_4) 4 li_5) 13 (Z 4)), T, K)) := hD
          refine lv_aload_n hx hb dX0_addToken_116 rfl (lv_at hl 3 rfl) ?_
          refine lv_dup hx hb dX0_addToken_117 rfl ?_
          refine va_get (D := (dC, dI)) (ci := 0) (v := .int (nI (Z 10))) (C := RX0) (T := TX0) (N := 16) hx hb hts inX0 hown hK hP 0 rfl rfl 10 (by decide) (hts _ fl_X0_90) (fun _ h9 => h9) rfl dX0_addToken_118 ?_
          refine lv_iconst (v := nI 1) hx hb dX0_addToken_121 (by decide) ?_
          refine lv_iadd hx hb dX0_addToken_122 ?_
          refine lv_topi (fun x_14 e_15 => ?_)
          obtain rfl : x_14 = nI (Z 10 + 1) := e_15.trans (nI_add (Z 10) 1)
          refine va_put (D := (dC, dI)) (ci := 0) (v := .int (nI (Z 10 + 1))) (ty := .int) (C := RX0) (T := TX0) (N := 16) hx hb hts inX0 tyX0 okX0 nmX0 hown hK hP hD hS 0 rfl rfl 10 (by decide) (hts _ fl_X0_90) (fun _ h9 => h9) rfl (by decide +kernel) rfl rfl (Nat.le_of_ble_eq_true rfl) dX0_addToken_123 (fun H locs hP hD hS => ?_)
          have hP : va_P (dC, dI) vwCl (lmW cA a0 a1 a2 ((zu (zu (zu (zu Z 3 a_4) 4 li_5) 10 (Z 10 + 1)) 13 (Z 4)), T, K)) H := hP
          have hD : va_D A (lmW cA a0 a1 a2 ((zu (zu (zu (zu Z 3 a_4) 4 li_5) 10 (Z 10 + 1)) 13 (Z 4)), T, K)) := hD
          refine lv_aload_n hx hb dX0_addToken_126 rfl (lv_at hl 3 rfl) ?_
          refine lv_iconst (v := nI 0) hx hb dX0_addToken_127 (by decide) ?_
          refine va_put (D := (dC, dI)) (ci := 0) (v := .int (nI 0)) (ty := .boolean) (C := RX0) (T := TX0) (N := 16) hx hb hts inX0 tyX0 okX0 nmX0 hown hK hP hD hS 0 rfl rfl 11 (by decide) (hts _ fl_X0_93) (fun _ h9 => h9) rfl (by decide +kernel) rfl rfl (Nat.le_of_ble_eq_true rfl) dX0_addToken_128 (fun H locs hP hD hS => ?_)
          have hP : va_P (dC, dI) vwCl (lmW cA a0 a1 a2 ((zu (zu (zu (zu (zu Z 3 a_4) 4 li_5) 10 (Z 10 + 1)) 11 0) 13 (Z 4)), T, K)) H := hP
          have hD : va_D A (lmW cA a0 a1 a2 ((zu (zu (zu (zu (zu Z 3 a_4) 4 li_5) 10 (Z 10 + 1)) 11 0) 13 (Z 4)), T, K)) := hD
          refine lv_iconst (v := nI 0) hx hb dX0_addToken_131 (by decide) ?_
          have hP : va_P (dC, dI) vwCl (lmW cA a0 a1 a2 (adZ T Z stop, T, adK T Z K kd stop)) H := by rw [adZ, adK, psZ, hp_7, if_neg (by omega), if_pos (by omega), if_neg (by omega)]; exact hP
          have hD : va_D A (lmW cA a0 a1 a2 (adZ T Z stop, T, adK T Z K kd stop)) := by rw [adZ, adK, psZ, hp_7, if_neg (by omega), if_pos (by omega), if_neg (by omega)]; exact hD
          exact W.iret (v := nI 0) hx hb hr (fun t ht hW => ⟨⟨_, (adZ T Z stop, T, adK T Z K kd stop), rfl, ⟨rfl, rfl⟩, by rw [ht]; exact hP, va_K.moved hW.alike hK, hD⟩, hS.F ht⟩) hS.2.2 dX0_addToken_132
      · have c_10 := mt (nI_leI (a := 8000) (b := Z 10) (by omega) (by omega)).mpr c_10
        refine lv_aload_n hx hb dX0_addToken_50 rfl (lv_at hl 3 rfl) ?_
        refine va_get (D := (dC, dI)) (ci := 0) (v := .ref a2) (C := RX0) (T := TX0) (N := 16) hx hb hts inX0 hown hK hP 0 rfl rfl 1 (by decide) (hts _ fl_X0_13) (fun _ h9 => h9) rfl dX0_addToken_51 ?_
        refine lv_aload_n hx hb dX0_addToken_54 rfl (lv_at hl 3 rfl) ?_
        refine va_get (D := (dC, dI)) (ci := 0) (v := .int (nI (Z 10))) (C := RX0) (T := TX0) (N := 16) hx hb hts inX0 hown hK hP 0 rfl rfl 10 (by decide) (hts _ fl_X0_90) (fun _ h9 => h9) rfl dX0_addToken_55 ?_
        refine lv_iload_n hx hb dX0_addToken_58 rfl (lv_at hl 2 rfl) ?_
        refine lv_i2l (v := lN (Z 3)) hx hb dX0_addToken_59 (nI_l (by omega)) ?_
        refine lv_iload hx hb dX0_addToken_60 (lv_at hl 0 rfl) ?_
        refine lv_i2l (v := lN n_6) hx hb dX0_addToken_62 (nI_l (by omega)) ?_
        refine lv_bipush (v := nI 16) hx hb dX0_addToken_63 (by decide) ?_
        refine lv_lshl (v := lN (n_6 * 2 ^ 16)) hx hb dX0_addToken_65 (wb_shl _ (by omega)) ?_
        refine lv_lor hx hb dX0_addToken_66 ?_
        refine lv_topl (fun x_16 e_17 => ?_)
        obtain rfl : x_16 = lN (Z 3 + n_6 * 2 ^ 16) := e_17.trans (lor_add (k := 16) (by decide) (by omega) (by omega))
        refine lv_iload hx hb dX0_addToken_67 (lv_at hl 1 rfl) ?_
        refine lv_i2l (v := lN (Z 4)) hx hb dX0_addToken_69 (nI_l (by omega)) ?_
        refine lv_bipush (v := nI 32) hx hb dX0_addToken_70 (by decide) ?_
        refine lv_lshl (v := lN ((Z 4) * 2 ^ 32)) hx hb dX0_addToken_72 (wb_shl _ (by omega)) ?_
        refine lv_lor hx hb dX0_addToken_73 ?_
        refine lv_topl (fun x_18 e_19 => ?_)
        obtain rfl : x_18 = lN (Z 3 + n_6 * 2 ^ 16 + (Z 4) * 2 ^ 32) := e_19.trans (lor_add (k := 32) (by decide) (by omega) (by omega))
        refine lv_iload_n hx hb dX0_addToken_74 rfl (lv_at hl 4 rfl) ?_
        refine lv_i2l (v := lN kd) hx hb dX0_addToken_75 (nI_l (by omega)) ?_
        refine lv_bipush (v := nI 48) hx hb dX0_addToken_76 (by decide) ?_
        refine lv_lshl (v := lN (kd * 2 ^ 48)) hx hb dX0_addToken_78 (wb_shl _ (by omega)) ?_
        refine lv_lor hx hb dX0_addToken_79 ?_
        refine lv_topl (fun x_20 e_21 => ?_)
        obtain rfl : x_20 = lN (Z 3 + n_6 * 2 ^ 16 + (Z 4) * 2 ^ 32 + kd * 2 ^ 48) := e_21.trans (lor_add (k := 48) (by decide) (by omega) (by omega))
        refine lv_aload_n hx hb dX0_addToken_80 rfl (lv_at hl 3 rfl) ?_
        refine va_get (D := (dC, dI)) (ci := 0) (v := .int (nI (Z 11))) (C := RX0) (T := TX0) (N := 16) hx hb hts inX0 hown hK hP 0 rfl rfl 11 (by decide) (hts _ fl_X0_93) (fun _ h9 => h9) rfl dX0_addToken_81 ?_
        refine lv_if_eq (tgt := 91) hx hb dX0_addToken_84 (by decide) (fun c_22 => ?_) (fun c_22 => ?_)
        · have c_22 := (nI_eq (a := Z 11) (b := 0) (by omega) (by omega)).mp c_22
          refine lv_lconst (v := lN 0) hx hb dX0_addToken_91 (by decide) ?_
          refine lv_bipush (v := nI 52) hx hb dX0_addToken_92 (by decide) ?_
          refine lv_lshl (v := lN (0 * 2 ^ 52)) hx hb dX0_addToken_94 (wb_shl _ (by omega)) ?_
          refine lv_lor hx hb dX0_addToken_95 ?_
          refine lv_topl (fun x_23 e_24 => ?_)
          obtain rfl : x_23 = lN (Z 3 + n_6 * 2 ^ 16 + (Z 4) * 2 ^ 32 + kd * 2 ^ 48 + 0 * 2 ^ 52) := e_24.trans (lor_add (k := 52) (by decide) (by omega) (by decide))
          refine va_last hx hb hK hP hD hS 2 0 rfl rfl (vp_in_nI (by omega) (by decide)) dX0_addToken_96 (fun H locs hP hD hS => ?_)
          rw [nI_clamp (by omega)] at hP hD
          have hP : va_P (dC, dI) vwCl (lmW cA a0 a1 a2 ((zu (zu Z 3 a_4) 4 li_5), T, (vp_updL K (Z 10) (lN (Z 3 + n_6 * 2 ^ 16 + (Z 4) * 2 ^ 32 + kd * 2 ^ 48 + 0 * 2 ^ 52))))) H := hP
          have hD : va_D A (lmW cA a0 a1 a2 ((zu (zu Z 3 a_4) 4 li_5), T, (vp_updL K (Z 10) (lN (Z 3 + n_6 * 2 ^ 16 + (Z 4) * 2 ^ 32 + kd * 2 ^ 48 + 0 * 2 ^ 52))))) := hD
          refine lv_goto (tgt := 116) hx hb dX0_addToken_97 (by decide) ?_
          refine lv_aload_n hx hb dX0_addToken_116 rfl (lv_at hl 3 rfl) ?_
          refine lv_dup hx hb dX0_addToken_117 rfl ?_
          refine va_get (D := (dC, dI)) (ci := 0) (v := .int (nI (Z 10))) (C := RX0) (T := TX0) (N := 16) hx hb hts inX0 hown hK hP 0 rfl rfl 10 (by decide) (hts _ fl_X0_90) (fun _ h9 => h9) rfl dX0_addToken_118 ?_
          refine lv_iconst (v := nI 1) hx hb dX0_addToken_121 (by decide) ?_
          refine lv_iadd hx hb dX0_addToken_122 ?_
          refine lv_topi (fun x_25 e_26 => ?_)
          obtain rfl : x_25 = nI (Z 10 + 1) := e_26.trans (nI_add (Z 10) 1)
          refine va_put (D := (dC, dI)) (ci := 0) (v := .int (nI (Z 10 + 1))) (ty := .int) (C := RX0) (T := TX0) (N := 16) hx hb hts inX0 tyX0 okX0 nmX0 hown hK hP hD hS 0 rfl rfl 10 (by decide) (hts _ fl_X0_90) (fun _ h9 => h9) rfl (by decide +kernel) rfl rfl (Nat.le_of_ble_eq_true rfl) dX0_addToken_123 (fun H locs hP hD hS => ?_)
          have hP : va_P (dC, dI) vwCl (lmW cA a0 a1 a2 ((zu (zu (zu Z 3 a_4) 4 li_5) 10 (Z 10 + 1)), T, (vp_updL K (Z 10) (lN (Z 3 + n_6 * 2 ^ 16 + (Z 4) * 2 ^ 32 + kd * 2 ^ 48 + 0 * 2 ^ 52))))) H := hP
          have hD : va_D A (lmW cA a0 a1 a2 ((zu (zu (zu Z 3 a_4) 4 li_5) 10 (Z 10 + 1)), T, (vp_updL K (Z 10) (lN (Z 3 + n_6 * 2 ^ 16 + (Z 4) * 2 ^ 32 + kd * 2 ^ 48 + 0 * 2 ^ 52))))) := hD
          refine lv_aload_n hx hb dX0_addToken_126 rfl (lv_at hl 3 rfl) ?_
          refine lv_iconst (v := nI 0) hx hb dX0_addToken_127 (by decide) ?_
          refine va_put (D := (dC, dI)) (ci := 0) (v := .int (nI 0)) (ty := .boolean) (C := RX0) (T := TX0) (N := 16) hx hb hts inX0 tyX0 okX0 nmX0 hown hK hP hD hS 0 rfl rfl 11 (by decide) (hts _ fl_X0_93) (fun _ h9 => h9) rfl (by decide +kernel) rfl rfl (Nat.le_of_ble_eq_true rfl) dX0_addToken_128 (fun H locs hP hD hS => ?_)
          have hP : va_P (dC, dI) vwCl (lmW cA a0 a1 a2 ((zu (zu (zu (zu Z 3 a_4) 4 li_5) 10 (Z 10 + 1)) 11 0), T, (vp_updL K (Z 10) (lN (Z 3 + n_6 * 2 ^ 16 + (Z 4) * 2 ^ 32 + kd * 2 ^ 48 + 0 * 2 ^ 52))))) H := hP
          have hD : va_D A (lmW cA a0 a1 a2 ((zu (zu (zu (zu Z 3 a_4) 4 li_5) 10 (Z 10 + 1)) 11 0), T, (vp_updL K (Z 10) (lN (Z 3 + n_6 * 2 ^ 16 + (Z 4) * 2 ^ 32 + kd * 2 ^ 48 + 0 * 2 ^ 52))))) := hD
          refine lv_iconst (v := nI 0) hx hb dX0_addToken_131 (by decide) ?_
          have hP : va_P (dC, dI) vwCl (lmW cA a0 a1 a2 (adZ T Z stop, T, adK T Z K kd stop)) H := by rw [adZ, adK, psZ, hp_7, if_neg (by omega), if_neg (by omega), if_pos (by omega), pkT, show Z 11 = 0 by omega]; exact hP
          have hD : va_D A (lmW cA a0 a1 a2 (adZ T Z stop, T, adK T Z K kd stop)) := by rw [adZ, adK, psZ, hp_7, if_neg (by omega), if_neg (by omega), if_pos (by omega), pkT, show Z 11 = 0 by omega]; exact hD
          exact W.iret (v := nI 0) hx hb hr (fun t ht hW => ⟨⟨_, (adZ T Z stop, T, adK T Z K kd stop), rfl, ⟨rfl, rfl⟩, by rw [ht]; exact hP, va_K.moved hW.alike hK, hD⟩, hS.F ht⟩) hS.2.2 dX0_addToken_132
        · have c_22 := mt (nI_eq (a := Z 11) (b := 0) (by omega) (by omega)).mpr c_22
          refine lv_lconst (v := lN 1) hx hb dX0_addToken_87 (by decide) ?_
          refine lv_goto (tgt := 92) hx hb dX0_addToken_88 (by decide) ?_
          refine lv_bipush (v := nI 52) hx hb dX0_addToken_92 (by decide) ?_
          refine lv_lshl (v := lN (1 * 2 ^ 52)) hx hb dX0_addToken_94 (wb_shl _ (by omega)) ?_
          refine lv_lor hx hb dX0_addToken_95 ?_
          refine lv_topl (fun x_27 e_28 => ?_)
          obtain rfl : x_27 = lN (Z 3 + n_6 * 2 ^ 16 + (Z 4) * 2 ^ 32 + kd * 2 ^ 48 + 1 * 2 ^ 52) := e_28.trans (lor_add (k := 52) (by decide) (by omega) (by decide))
          refine va_last hx hb hK hP hD hS 2 0 rfl rfl (vp_in_nI (by omega) (by decide)) dX0_addToken_96 (fun H locs hP hD hS => ?_)
          rw [nI_clamp (by omega)] at hP hD
          have hP : va_P (dC, dI) vwCl (lmW cA a0 a1 a2 ((zu (zu Z 3 a_4) 4 li_5), T, (vp_updL K (Z 10) (lN (Z 3 + n_6 * 2 ^ 16 + (Z 4) * 2 ^ 32 + kd * 2 ^ 48 + 1 * 2 ^ 52))))) H := hP
          have hD : va_D A (lmW cA a0 a1 a2 ((zu (zu Z 3 a_4) 4 li_5), T, (vp_updL K (Z 10) (lN (Z 3 + n_6 * 2 ^ 16 + (Z 4) * 2 ^ 32 + kd * 2 ^ 48 + 1 * 2 ^ 52))))) := hD
          refine lv_goto (tgt := 116) hx hb dX0_addToken_97 (by decide) ?_
          refine lv_aload_n hx hb dX0_addToken_116 rfl (lv_at hl 3 rfl) ?_
          refine lv_dup hx hb dX0_addToken_117 rfl ?_
          refine va_get (D := (dC, dI)) (ci := 0) (v := .int (nI (Z 10))) (C := RX0) (T := TX0) (N := 16) hx hb hts inX0 hown hK hP 0 rfl rfl 10 (by decide) (hts _ fl_X0_90) (fun _ h9 => h9) rfl dX0_addToken_118 ?_
          refine lv_iconst (v := nI 1) hx hb dX0_addToken_121 (by decide) ?_
          refine lv_iadd hx hb dX0_addToken_122 ?_
          refine lv_topi (fun x_29 e_30 => ?_)
          obtain rfl : x_29 = nI (Z 10 + 1) := e_30.trans (nI_add (Z 10) 1)
          refine va_put (D := (dC, dI)) (ci := 0) (v := .int (nI (Z 10 + 1))) (ty := .int) (C := RX0) (T := TX0) (N := 16) hx hb hts inX0 tyX0 okX0 nmX0 hown hK hP hD hS 0 rfl rfl 10 (by decide) (hts _ fl_X0_90) (fun _ h9 => h9) rfl (by decide +kernel) rfl rfl (Nat.le_of_ble_eq_true rfl) dX0_addToken_123 (fun H locs hP hD hS => ?_)
          have hP : va_P (dC, dI) vwCl (lmW cA a0 a1 a2 ((zu (zu (zu Z 3 a_4) 4 li_5) 10 (Z 10 + 1)), T, (vp_updL K (Z 10) (lN (Z 3 + n_6 * 2 ^ 16 + (Z 4) * 2 ^ 32 + kd * 2 ^ 48 + 1 * 2 ^ 52))))) H := hP
          have hD : va_D A (lmW cA a0 a1 a2 ((zu (zu (zu Z 3 a_4) 4 li_5) 10 (Z 10 + 1)), T, (vp_updL K (Z 10) (lN (Z 3 + n_6 * 2 ^ 16 + (Z 4) * 2 ^ 32 + kd * 2 ^ 48 + 1 * 2 ^ 52))))) := hD
          refine lv_aload_n hx hb dX0_addToken_126 rfl (lv_at hl 3 rfl) ?_
          refine lv_iconst (v := nI 0) hx hb dX0_addToken_127 (by decide) ?_
          refine va_put (D := (dC, dI)) (ci := 0) (v := .int (nI 0)) (ty := .boolean) (C := RX0) (T := TX0) (N := 16) hx hb hts inX0 tyX0 okX0 nmX0 hown hK hP hD hS 0 rfl rfl 11 (by decide) (hts _ fl_X0_93) (fun _ h9 => h9) rfl (by decide +kernel) rfl rfl (Nat.le_of_ble_eq_true rfl) dX0_addToken_128 (fun H locs hP hD hS => ?_)
          have hP : va_P (dC, dI) vwCl (lmW cA a0 a1 a2 ((zu (zu (zu (zu Z 3 a_4) 4 li_5) 10 (Z 10 + 1)) 11 0), T, (vp_updL K (Z 10) (lN (Z 3 + n_6 * 2 ^ 16 + (Z 4) * 2 ^ 32 + kd * 2 ^ 48 + 1 * 2 ^ 52))))) H := hP
          have hD : va_D A (lmW cA a0 a1 a2 ((zu (zu (zu (zu Z 3 a_4) 4 li_5) 10 (Z 10 + 1)) 11 0), T, (vp_updL K (Z 10) (lN (Z 3 + n_6 * 2 ^ 16 + (Z 4) * 2 ^ 32 + kd * 2 ^ 48 + 1 * 2 ^ 52))))) := hD
          refine lv_iconst (v := nI 0) hx hb dX0_addToken_131 (by decide) ?_
          have hP : va_P (dC, dI) vwCl (lmW cA a0 a1 a2 (adZ T Z stop, T, adK T Z K kd stop)) H := by rw [adZ, adK, psZ, hp_7, if_neg (by omega), if_neg (by omega), if_pos (by omega), pkT, show Z 11 = 1 by omega]; exact hP
          have hD : va_D A (lmW cA a0 a1 a2 (adZ T Z stop, T, adK T Z K kd stop)) := by rw [adZ, adK, psZ, hp_7, if_neg (by omega), if_neg (by omega), if_pos (by omega), pkT, show Z 11 = 1 by omega]; exact hD
          exact W.iret (v := nI 0) hx hb hr (fun t ht hW => ⟨⟨_, (adZ T Z stop, T, adK T Z K kd stop), rfl, ⟨rfl, rfl⟩, by rw [ht]; exact hP, va_K.moved hW.alike hK, hD⟩, hS.F ht⟩) hS.2.2 dX0_addToken_132
  · have c_8 := (nI_eq (a := Z 10) (b := 0) (by omega) (by omega)).mp c_8
    refine lv_aload_n hx hb dX0_addToken_25 rfl (lv_at hl 3 rfl) ?_
    refine lv_iload hx hb dX0_addToken_26 (lv_at hl 1 rfl) ?_
    refine va_put (D := (dC, dI)) (ci := 0) (v := .int (nI (Z 4))) (ty := .int) (C := RX0) (T := TX0) (N := 16) hx hb hts inX0 tyX0 okX0 nmX0 hown hK hP hD hS 0 rfl rfl 12 (by decide) (hts _ fl_X0_102) (fun _ h9 => h9) rfl (by decide +kernel) rfl rfl (Nat.le_of_ble_eq_true rfl) dX0_addToken_28 (fun H locs hP hD hS => ?_)
    have hP : va_P (dC, dI) vwCl (lmW cA a0 a1 a2 ((zu (zu (zu Z 3 a_4) 4 li_5) 12 (Z 4)), T, K)) H := hP
    have hD : va_D A (lmW cA a0 a1 a2 ((zu (zu (zu Z 3 a_4) 4 li_5) 12 (Z 4)), T, K)) := hD
    refine lv_aload_n hx hb dX0_addToken_31 rfl (lv_at hl 3 rfl) ?_
    refine va_get (D := (dC, dI)) (ci := 0) (v := .int (nI (Z 10))) (C := RX0) (T := TX0) (N := 16) hx hb hts inX0 hown hK hP 0 rfl rfl 10 (by decide) (hts _ fl_X0_90) (fun _ h9 => h9) rfl dX0_addToken_32 ?_
    refine lv_if_lt (tgt := 100) hx hb dX0_addToken_35 (by decide) (fun c_31 => ?_) (fun c_31 => ?_)
    · have c_31 := (nI_ltI (a := Z 10) (b := 0) (by omega) (by omega)).mp c_31
      omega
    · have c_31 := mt (nI_ltI (a := Z 10) (b := 0) (by omega) (by omega)).mpr c_31
      refine lv_aload_n hx hb dX0_addToken_38 rfl (lv_at hl 3 rfl) ?_
      refine va_get (D := (dC, dI)) (ci := 0) (v := .int (nI (Z 10))) (C := RX0) (T := TX0) (N := 16) hx hb hts inX0 hown hK hP 0 rfl rfl 10 (by decide) (hts _ fl_X0_90) (fun _ h9 => h9) rfl dX0_addToken_39 ?_
      refine lv_aload_n hx hb dX0_addToken_42 rfl (lv_at hl 3 rfl) ?_
      refine va_get (D := (dC, dI)) (ci := 0) (v := .ref a2) (C := RX0) (T := TX0) (N := 16) hx hb hts inX0 hown hK hP 0 rfl rfl 1 (by decide) (hts _ fl_X0_13) (fun _ h9 => h9) rfl dX0_addToken_43 ?_
      refine va_alen hx hb hK hP 2 0 rfl rfl (v := nI 8000) rfl dX0_addToken_46 ?_
      refine lv_icmp_ge (tgt := 100) hx hb dX0_addToken_47 (by decide) (fun c_32 => ?_) (fun c_32 => ?_)
      · have c_32 := (nI_leI (a := 8000) (b := Z 10) (by omega) (by omega)).mp c_32
        refine lv_aload_n hx hb dX0_addToken_100 rfl (lv_at hl 3 rfl) ?_
        refine va_get (D := (dC, dI)) (ci := 0) (v := .int (nI (Z 10))) (C := RX0) (T := TX0) (N := 16) hx hb hts inX0 hown hK hP 0 rfl rfl 10 (by decide) (hts _ fl_X0_90) (fun _ h9 => h9) rfl dX0_addToken_101 ?_
        refine lv_sipush (v := nI 8000) hx hb dX0_addToken_104 (by decide) ?_
        refine lv_icmp_ne (tgt := 116) hx hb dX0_addToken_107 (by decide) (fun c_33 => ?_) (fun c_33 => ?_)
        · have c_33 := mt (nI_eq (a := Z 10) (b := 8000) (by omega) (by omega)).mpr c_33
          refine lv_aload_n hx hb dX0_addToken_116 rfl (lv_at hl 3 rfl) ?_
          refine lv_dup hx hb dX0_addToken_117 rfl ?_
          refine va_get (D := (dC, dI)) (ci := 0) (v := .int (nI (Z 10))) (C := RX0) (T := TX0) (N := 16) hx hb hts inX0 hown hK hP 0 rfl rfl 10 (by decide) (hts _ fl_X0_90) (fun _ h9 => h9) rfl dX0_addToken_118 ?_
          refine lv_iconst (v := nI 1) hx hb dX0_addToken_121 (by decide) ?_
          refine lv_iadd hx hb dX0_addToken_122 ?_
          refine lv_topi (fun x_34 e_35 => ?_)
          obtain rfl : x_34 = nI (Z 10 + 1) := e_35.trans (nI_add (Z 10) 1)
          refine va_put (D := (dC, dI)) (ci := 0) (v := .int (nI (Z 10 + 1))) (ty := .int) (C := RX0) (T := TX0) (N := 16) hx hb hts inX0 tyX0 okX0 nmX0 hown hK hP hD hS 0 rfl rfl 10 (by decide) (hts _ fl_X0_90) (fun _ h9 => h9) rfl (by decide +kernel) rfl rfl (Nat.le_of_ble_eq_true rfl) dX0_addToken_123 (fun H locs hP hD hS => ?_)
          have hP : va_P (dC, dI) vwCl (lmW cA a0 a1 a2 ((zu (zu (zu (zu Z 3 a_4) 4 li_5) 10 (Z 10 + 1)) 12 (Z 4)), T, K)) H := hP
          have hD : va_D A (lmW cA a0 a1 a2 ((zu (zu (zu (zu Z 3 a_4) 4 li_5) 10 (Z 10 + 1)) 12 (Z 4)), T, K)) := hD
          refine lv_aload_n hx hb dX0_addToken_126 rfl (lv_at hl 3 rfl) ?_
          refine lv_iconst (v := nI 0) hx hb dX0_addToken_127 (by decide) ?_
          refine va_put (D := (dC, dI)) (ci := 0) (v := .int (nI 0)) (ty := .boolean) (C := RX0) (T := TX0) (N := 16) hx hb hts inX0 tyX0 okX0 nmX0 hown hK hP hD hS 0 rfl rfl 11 (by decide) (hts _ fl_X0_93) (fun _ h9 => h9) rfl (by decide +kernel) rfl rfl (Nat.le_of_ble_eq_true rfl) dX0_addToken_128 (fun H locs hP hD hS => ?_)
          have hP : va_P (dC, dI) vwCl (lmW cA a0 a1 a2 ((zu (zu (zu (zu (zu Z 3 a_4) 4 li_5) 10 (Z 10 + 1)) 11 0) 12 (Z 4)), T, K)) H := hP
          have hD : va_D A (lmW cA a0 a1 a2 ((zu (zu (zu (zu (zu Z 3 a_4) 4 li_5) 10 (Z 10 + 1)) 11 0) 12 (Z 4)), T, K)) := hD
          refine lv_iconst (v := nI 0) hx hb dX0_addToken_131 (by decide) ?_
          have hP : va_P (dC, dI) vwCl (lmW cA a0 a1 a2 (adZ T Z stop, T, adK T Z K kd stop)) H := by rw [adZ, adK, psZ, hp_7, if_pos (by omega), if_neg (by omega), if_neg (by omega)]; exact hP
          have hD : va_D A (lmW cA a0 a1 a2 (adZ T Z stop, T, adK T Z K kd stop)) := by rw [adZ, adK, psZ, hp_7, if_pos (by omega), if_neg (by omega), if_neg (by omega)]; exact hD
          exact W.iret (v := nI 0) hx hb hr (fun t ht hW => ⟨⟨_, (adZ T Z stop, T, adK T Z K kd stop), rfl, ⟨rfl, rfl⟩, by rw [ht]; exact hP, va_K.moved hW.alike hK, hD⟩, hS.F ht⟩) hS.2.2 dX0_addToken_132
        · have c_33 := (nI_eq (a := Z 10) (b := 8000) (by omega) (by omega)).mp c_33
          refine lv_aload_n hx hb dX0_addToken_110 rfl (lv_at hl 3 rfl) ?_
          refine lv_iload hx hb dX0_addToken_111 (lv_at hl 1 rfl) ?_
          refine va_put (D := (dC, dI)) (ci := 0) (v := .int (nI (Z 4))) (ty := .int) (C := RX0) (T := TX0) (N := 16) hx hb hts inX0 tyX0 okX0 nmX0 hown hK hP hD hS 0 rfl rfl 13 (by decide) (hts _ fl_X0_109) (fun _ h9 => h9) rfl (by decide +kernel) rfl rfl (Nat.le_of_ble_eq_true rfl) dX0_addToken_113 (fun H locs hP hD hS => ?_)
          have hP : va_P (dC, dI) vwCl (lmW cA a0 a1 a2 ((zu (zu (zu (zu Z 3 a_4) 4 li_5) 12 (Z 4)) 13 (Z 4)), T, K)) H := hP
          have hD : va_D A (lmW cA a0 a1 a2 ((zu (zu (zu (zu Z 3 a_4) 4 li_5) 12 (Z 4)) 13 (Z 4)), T, K)) := hD
          refine lv_aload_n hx hb dX0_addToken_116 rfl (lv_at hl 3 rfl) ?_
          refine lv_dup hx hb dX0_addToken_117 rfl ?_
          refine va_get (D := (dC, dI)) (ci := 0) (v := .int (nI (Z 10))) (C := RX0) (T := TX0) (N := 16) hx hb hts inX0 hown hK hP 0 rfl rfl 10 (by decide) (hts _ fl_X0_90) (fun _ h9 => h9) rfl dX0_addToken_118 ?_
          refine lv_iconst (v := nI 1) hx hb dX0_addToken_121 (by decide) ?_
          refine lv_iadd hx hb dX0_addToken_122 ?_
          refine lv_topi (fun x_36 e_37 => ?_)
          obtain rfl : x_36 = nI (Z 10 + 1) := e_37.trans (nI_add (Z 10) 1)
          refine va_put (D := (dC, dI)) (ci := 0) (v := .int (nI (Z 10 + 1))) (ty := .int) (C := RX0) (T := TX0) (N := 16) hx hb hts inX0 tyX0 okX0 nmX0 hown hK hP hD hS 0 rfl rfl 10 (by decide) (hts _ fl_X0_90) (fun _ h9 => h9) rfl (by decide +kernel) rfl rfl (Nat.le_of_ble_eq_true rfl) dX0_addToken_123 (fun H locs hP hD hS => ?_)
          have hP : va_P (dC, dI) vwCl (lmW cA a0 a1 a2 ((zu (zu (zu (zu (zu Z 3 a_4) 4 li_5) 10 (Z 10 + 1)) 12 (Z 4)) 13 (Z 4)), T, K)) H := hP
          have hD : va_D A (lmW cA a0 a1 a2 ((zu (zu (zu (zu (zu Z 3 a_4) 4 li_5) 10 (Z 10 + 1)) 12 (Z 4)) 13 (Z 4)), T, K)) := hD
          refine lv_aload_n hx hb dX0_addToken_126 rfl (lv_at hl 3 rfl) ?_
          refine lv_iconst (v := nI 0) hx hb dX0_addToken_127 (by decide) ?_
          refine va_put (D := (dC, dI)) (ci := 0) (v := .int (nI 0)) (ty := .boolean) (C := RX0) (T := TX0) (N := 16) hx hb hts inX0 tyX0 okX0 nmX0 hown hK hP hD hS 0 rfl rfl 11 (by decide) (hts _ fl_X0_93) (fun _ h9 => h9) rfl (by decide +kernel) rfl rfl (Nat.le_of_ble_eq_true rfl) dX0_addToken_128 (fun H locs hP hD hS => ?_)
          have hP : va_P (dC, dI) vwCl (lmW cA a0 a1 a2 ((zu (zu (zu (zu (zu (zu Z 3 a_4) 4 li_5) 10 (Z 10 + 1)) 11 0) 12 (Z 4)) 13 (Z 4)), T, K)) H := hP
          have hD : va_D A (lmW cA a0 a1 a2 ((zu (zu (zu (zu (zu (zu Z 3 a_4) 4 li_5) 10 (Z 10 + 1)) 11 0) 12 (Z 4)) 13 (Z 4)), T, K)) := hD
          refine lv_iconst (v := nI 0) hx hb dX0_addToken_131 (by decide) ?_
          have hP : va_P (dC, dI) vwCl (lmW cA a0 a1 a2 (adZ T Z stop, T, adK T Z K kd stop)) H := by rw [adZ, adK, psZ, hp_7, if_pos (by omega), if_pos (by omega), if_neg (by omega)]; exact hP
          have hD : va_D A (lmW cA a0 a1 a2 (adZ T Z stop, T, adK T Z K kd stop)) := by rw [adZ, adK, psZ, hp_7, if_pos (by omega), if_pos (by omega), if_neg (by omega)]; exact hD
          exact W.iret (v := nI 0) hx hb hr (fun t ht hW => ⟨⟨_, (adZ T Z stop, T, adK T Z K kd stop), rfl, ⟨rfl, rfl⟩, by rw [ht]; exact hP, va_K.moved hW.alike hK, hD⟩, hS.F ht⟩) hS.2.2 dX0_addToken_132
      · have c_32 := mt (nI_leI (a := 8000) (b := Z 10) (by omega) (by omega)).mpr c_32
        refine lv_aload_n hx hb dX0_addToken_50 rfl (lv_at hl 3 rfl) ?_
        refine va_get (D := (dC, dI)) (ci := 0) (v := .ref a2) (C := RX0) (T := TX0) (N := 16) hx hb hts inX0 hown hK hP 0 rfl rfl 1 (by decide) (hts _ fl_X0_13) (fun _ h9 => h9) rfl dX0_addToken_51 ?_
        refine lv_aload_n hx hb dX0_addToken_54 rfl (lv_at hl 3 rfl) ?_
        refine va_get (D := (dC, dI)) (ci := 0) (v := .int (nI (Z 10))) (C := RX0) (T := TX0) (N := 16) hx hb hts inX0 hown hK hP 0 rfl rfl 10 (by decide) (hts _ fl_X0_90) (fun _ h9 => h9) rfl dX0_addToken_55 ?_
        refine lv_iload_n hx hb dX0_addToken_58 rfl (lv_at hl 2 rfl) ?_
        refine lv_i2l (v := lN (Z 3)) hx hb dX0_addToken_59 (nI_l (by omega)) ?_
        refine lv_iload hx hb dX0_addToken_60 (lv_at hl 0 rfl) ?_
        refine lv_i2l (v := lN n_6) hx hb dX0_addToken_62 (nI_l (by omega)) ?_
        refine lv_bipush (v := nI 16) hx hb dX0_addToken_63 (by decide) ?_
        refine lv_lshl (v := lN (n_6 * 2 ^ 16)) hx hb dX0_addToken_65 (wb_shl _ (by omega)) ?_
        refine lv_lor hx hb dX0_addToken_66 ?_
        refine lv_topl (fun x_38 e_39 => ?_)
        obtain rfl : x_38 = lN (Z 3 + n_6 * 2 ^ 16) := e_39.trans (lor_add (k := 16) (by decide) (by omega) (by omega))
        refine lv_iload hx hb dX0_addToken_67 (lv_at hl 1 rfl) ?_
        refine lv_i2l (v := lN (Z 4)) hx hb dX0_addToken_69 (nI_l (by omega)) ?_
        refine lv_bipush (v := nI 32) hx hb dX0_addToken_70 (by decide) ?_
        refine lv_lshl (v := lN ((Z 4) * 2 ^ 32)) hx hb dX0_addToken_72 (wb_shl _ (by omega)) ?_
        refine lv_lor hx hb dX0_addToken_73 ?_
        refine lv_topl (fun x_40 e_41 => ?_)
        obtain rfl : x_40 = lN (Z 3 + n_6 * 2 ^ 16 + (Z 4) * 2 ^ 32) := e_41.trans (lor_add (k := 32) (by decide) (by omega) (by omega))
        refine lv_iload_n hx hb dX0_addToken_74 rfl (lv_at hl 4 rfl) ?_
        refine lv_i2l (v := lN kd) hx hb dX0_addToken_75 (nI_l (by omega)) ?_
        refine lv_bipush (v := nI 48) hx hb dX0_addToken_76 (by decide) ?_
        refine lv_lshl (v := lN (kd * 2 ^ 48)) hx hb dX0_addToken_78 (wb_shl _ (by omega)) ?_
        refine lv_lor hx hb dX0_addToken_79 ?_
        refine lv_topl (fun x_42 e_43 => ?_)
        obtain rfl : x_42 = lN (Z 3 + n_6 * 2 ^ 16 + (Z 4) * 2 ^ 32 + kd * 2 ^ 48) := e_43.trans (lor_add (k := 48) (by decide) (by omega) (by omega))
        refine lv_aload_n hx hb dX0_addToken_80 rfl (lv_at hl 3 rfl) ?_
        refine va_get (D := (dC, dI)) (ci := 0) (v := .int (nI (Z 11))) (C := RX0) (T := TX0) (N := 16) hx hb hts inX0 hown hK hP 0 rfl rfl 11 (by decide) (hts _ fl_X0_93) (fun _ h9 => h9) rfl dX0_addToken_81 ?_
        refine lv_if_eq (tgt := 91) hx hb dX0_addToken_84 (by decide) (fun c_44 => ?_) (fun c_44 => ?_)
        · have c_44 := (nI_eq (a := Z 11) (b := 0) (by omega) (by omega)).mp c_44
          refine lv_lconst (v := lN 0) hx hb dX0_addToken_91 (by decide) ?_
          refine lv_bipush (v := nI 52) hx hb dX0_addToken_92 (by decide) ?_
          refine lv_lshl (v := lN (0 * 2 ^ 52)) hx hb dX0_addToken_94 (wb_shl _ (by omega)) ?_
          refine lv_lor hx hb dX0_addToken_95 ?_
          refine lv_topl (fun x_45 e_46 => ?_)
          obtain rfl : x_45 = lN (Z 3 + n_6 * 2 ^ 16 + (Z 4) * 2 ^ 32 + kd * 2 ^ 48 + 0 * 2 ^ 52) := e_46.trans (lor_add (k := 52) (by decide) (by omega) (by decide))
          refine va_last hx hb hK hP hD hS 2 0 rfl rfl (vp_in_nI (by omega) (by decide)) dX0_addToken_96 (fun H locs hP hD hS => ?_)
          rw [nI_clamp (by omega)] at hP hD
          have hP : va_P (dC, dI) vwCl (lmW cA a0 a1 a2 ((zu (zu (zu Z 3 a_4) 4 li_5) 12 (Z 4)), T, (vp_updL K (Z 10) (lN (Z 3 + n_6 * 2 ^ 16 + (Z 4) * 2 ^ 32 + kd * 2 ^ 48 + 0 * 2 ^ 52))))) H := hP
          have hD : va_D A (lmW cA a0 a1 a2 ((zu (zu (zu Z 3 a_4) 4 li_5) 12 (Z 4)), T, (vp_updL K (Z 10) (lN (Z 3 + n_6 * 2 ^ 16 + (Z 4) * 2 ^ 32 + kd * 2 ^ 48 + 0 * 2 ^ 52))))) := hD
          refine lv_goto (tgt := 116) hx hb dX0_addToken_97 (by decide) ?_
          refine lv_aload_n hx hb dX0_addToken_116 rfl (lv_at hl 3 rfl) ?_
          refine lv_dup hx hb dX0_addToken_117 rfl ?_
          refine va_get (D := (dC, dI)) (ci := 0) (v := .int (nI (Z 10))) (C := RX0) (T := TX0) (N := 16) hx hb hts inX0 hown hK hP 0 rfl rfl 10 (by decide) (hts _ fl_X0_90) (fun _ h9 => h9) rfl dX0_addToken_118 ?_
          refine lv_iconst (v := nI 1) hx hb dX0_addToken_121 (by decide) ?_
          refine lv_iadd hx hb dX0_addToken_122 ?_
          refine lv_topi (fun x_47 e_48 => ?_)
          obtain rfl : x_47 = nI (Z 10 + 1) := e_48.trans (nI_add (Z 10) 1)
          refine va_put (D := (dC, dI)) (ci := 0) (v := .int (nI (Z 10 + 1))) (ty := .int) (C := RX0) (T := TX0) (N := 16) hx hb hts inX0 tyX0 okX0 nmX0 hown hK hP hD hS 0 rfl rfl 10 (by decide) (hts _ fl_X0_90) (fun _ h9 => h9) rfl (by decide +kernel) rfl rfl (Nat.le_of_ble_eq_true rfl) dX0_addToken_123 (fun H locs hP hD hS => ?_)
          have hP : va_P (dC, dI) vwCl (lmW cA a0 a1 a2 ((zu (zu (zu (zu Z 3 a_4) 4 li_5) 10 (Z 10 + 1)) 12 (Z 4)), T, (vp_updL K (Z 10) (lN (Z 3 + n_6 * 2 ^ 16 + (Z 4) * 2 ^ 32 + kd * 2 ^ 48 + 0 * 2 ^ 52))))) H := hP
          have hD : va_D A (lmW cA a0 a1 a2 ((zu (zu (zu (zu Z 3 a_4) 4 li_5) 10 (Z 10 + 1)) 12 (Z 4)), T, (vp_updL K (Z 10) (lN (Z 3 + n_6 * 2 ^ 16 + (Z 4) * 2 ^ 32 + kd * 2 ^ 48 + 0 * 2 ^ 52))))) := hD
          refine lv_aload_n hx hb dX0_addToken_126 rfl (lv_at hl 3 rfl) ?_
          refine lv_iconst (v := nI 0) hx hb dX0_addToken_127 (by decide) ?_
          refine va_put (D := (dC, dI)) (ci := 0) (v := .int (nI 0)) (ty := .boolean) (C := RX0) (T := TX0) (N := 16) hx hb hts inX0 tyX0 okX0 nmX0 hown hK hP hD hS 0 rfl rfl 11 (by decide) (hts _ fl_X0_93) (fun _ h9 => h9) rfl (by decide +kernel) rfl rfl (Nat.le_of_ble_eq_true rfl) dX0_addToken_128 (fun H locs hP hD hS => ?_)
          have hP : va_P (dC, dI) vwCl (lmW cA a0 a1 a2 ((zu (zu (zu (zu (zu Z 3 a_4) 4 li_5) 10 (Z 10 + 1)) 11 0) 12 (Z 4)), T, (vp_updL K (Z 10) (lN (Z 3 + n_6 * 2 ^ 16 + (Z 4) * 2 ^ 32 + kd * 2 ^ 48 + 0 * 2 ^ 52))))) H := hP
          have hD : va_D A (lmW cA a0 a1 a2 ((zu (zu (zu (zu (zu Z 3 a_4) 4 li_5) 10 (Z 10 + 1)) 11 0) 12 (Z 4)), T, (vp_updL K (Z 10) (lN (Z 3 + n_6 * 2 ^ 16 + (Z 4) * 2 ^ 32 + kd * 2 ^ 48 + 0 * 2 ^ 52))))) := hD
          refine lv_iconst (v := nI 0) hx hb dX0_addToken_131 (by decide) ?_
          have hP : va_P (dC, dI) vwCl (lmW cA a0 a1 a2 (adZ T Z stop, T, adK T Z K kd stop)) H := by rw [adZ, adK, psZ, hp_7, if_pos (by omega), if_neg (by omega), if_pos (by omega), pkT, show Z 11 = 0 by omega]; exact hP
          have hD : va_D A (lmW cA a0 a1 a2 (adZ T Z stop, T, adK T Z K kd stop)) := by rw [adZ, adK, psZ, hp_7, if_pos (by omega), if_neg (by omega), if_pos (by omega), pkT, show Z 11 = 0 by omega]; exact hD
          exact W.iret (v := nI 0) hx hb hr (fun t ht hW => ⟨⟨_, (adZ T Z stop, T, adK T Z K kd stop), rfl, ⟨rfl, rfl⟩, by rw [ht]; exact hP, va_K.moved hW.alike hK, hD⟩, hS.F ht⟩) hS.2.2 dX0_addToken_132
        · have c_44 := mt (nI_eq (a := Z 11) (b := 0) (by omega) (by omega)).mpr c_44
          refine lv_lconst (v := lN 1) hx hb dX0_addToken_87 (by decide) ?_
          refine lv_goto (tgt := 92) hx hb dX0_addToken_88 (by decide) ?_
          refine lv_bipush (v := nI 52) hx hb dX0_addToken_92 (by decide) ?_
          refine lv_lshl (v := lN (1 * 2 ^ 52)) hx hb dX0_addToken_94 (wb_shl _ (by omega)) ?_
          refine lv_lor hx hb dX0_addToken_95 ?_
          refine lv_topl (fun x_49 e_50 => ?_)
          obtain rfl : x_49 = lN (Z 3 + n_6 * 2 ^ 16 + (Z 4) * 2 ^ 32 + kd * 2 ^ 48 + 1 * 2 ^ 52) := e_50.trans (lor_add (k := 52) (by decide) (by omega) (by decide))
          refine va_last hx hb hK hP hD hS 2 0 rfl rfl (vp_in_nI (by omega) (by decide)) dX0_addToken_96 (fun H locs hP hD hS => ?_)
          rw [nI_clamp (by omega)] at hP hD
          have hP : va_P (dC, dI) vwCl (lmW cA a0 a1 a2 ((zu (zu (zu Z 3 a_4) 4 li_5) 12 (Z 4)), T, (vp_updL K (Z 10) (lN (Z 3 + n_6 * 2 ^ 16 + (Z 4) * 2 ^ 32 + kd * 2 ^ 48 + 1 * 2 ^ 52))))) H := hP
          have hD : va_D A (lmW cA a0 a1 a2 ((zu (zu (zu Z 3 a_4) 4 li_5) 12 (Z 4)), T, (vp_updL K (Z 10) (lN (Z 3 + n_6 * 2 ^ 16 + (Z 4) * 2 ^ 32 + kd * 2 ^ 48 + 1 * 2 ^ 52))))) := hD
          refine lv_goto (tgt := 116) hx hb dX0_addToken_97 (by decide) ?_
          refine lv_aload_n hx hb dX0_addToken_116 rfl (lv_at hl 3 rfl) ?_
          refine lv_dup hx hb dX0_addToken_117 rfl ?_
          refine va_get (D := (dC, dI)) (ci := 0) (v := .int (nI (Z 10))) (C := RX0) (T := TX0) (N := 16) hx hb hts inX0 hown hK hP 0 rfl rfl 10 (by decide) (hts _ fl_X0_90) (fun _ h9 => h9) rfl dX0_addToken_118 ?_
          refine lv_iconst (v := nI 1) hx hb dX0_addToken_121 (by decide) ?_
          refine lv_iadd hx hb dX0_addToken_122 ?_
          refine lv_topi (fun x_51 e_52 => ?_)
          obtain rfl : x_51 = nI (Z 10 + 1) := e_52.trans (nI_add (Z 10) 1)
          refine va_put (D := (dC, dI)) (ci := 0) (v := .int (nI (Z 10 + 1))) (ty := .int) (C := RX0) (T := TX0) (N := 16) hx hb hts inX0 tyX0 okX0 nmX0 hown hK hP hD hS 0 rfl rfl 10 (by decide) (hts _ fl_X0_90) (fun _ h9 => h9) rfl (by decide +kernel) rfl rfl (Nat.le_of_ble_eq_true rfl) dX0_addToken_123 (fun H locs hP hD hS => ?_)
          have hP : va_P (dC, dI) vwCl (lmW cA a0 a1 a2 ((zu (zu (zu (zu Z 3 a_4) 4 li_5) 10 (Z 10 + 1)) 12 (Z 4)), T, (vp_updL K (Z 10) (lN (Z 3 + n_6 * 2 ^ 16 + (Z 4) * 2 ^ 32 + kd * 2 ^ 48 + 1 * 2 ^ 52))))) H := hP
          have hD : va_D A (lmW cA a0 a1 a2 ((zu (zu (zu (zu Z 3 a_4) 4 li_5) 10 (Z 10 + 1)) 12 (Z 4)), T, (vp_updL K (Z 10) (lN (Z 3 + n_6 * 2 ^ 16 + (Z 4) * 2 ^ 32 + kd * 2 ^ 48 + 1 * 2 ^ 52))))) := hD
          refine lv_aload_n hx hb dX0_addToken_126 rfl (lv_at hl 3 rfl) ?_
          refine lv_iconst (v := nI 0) hx hb dX0_addToken_127 (by decide) ?_
          refine va_put (D := (dC, dI)) (ci := 0) (v := .int (nI 0)) (ty := .boolean) (C := RX0) (T := TX0) (N := 16) hx hb hts inX0 tyX0 okX0 nmX0 hown hK hP hD hS 0 rfl rfl 11 (by decide) (hts _ fl_X0_93) (fun _ h9 => h9) rfl (by decide +kernel) rfl rfl (Nat.le_of_ble_eq_true rfl) dX0_addToken_128 (fun H locs hP hD hS => ?_)
          have hP : va_P (dC, dI) vwCl (lmW cA a0 a1 a2 ((zu (zu (zu (zu (zu Z 3 a_4) 4 li_5) 10 (Z 10 + 1)) 11 0) 12 (Z 4)), T, (vp_updL K (Z 10) (lN (Z 3 + n_6 * 2 ^ 16 + (Z 4) * 2 ^ 32 + kd * 2 ^ 48 + 1 * 2 ^ 52))))) H := hP
          have hD : va_D A (lmW cA a0 a1 a2 ((zu (zu (zu (zu (zu Z 3 a_4) 4 li_5) 10 (Z 10 + 1)) 11 0) 12 (Z 4)), T, (vp_updL K (Z 10) (lN (Z 3 + n_6 * 2 ^ 16 + (Z 4) * 2 ^ 32 + kd * 2 ^ 48 + 1 * 2 ^ 52))))) := hD
          refine lv_iconst (v := nI 0) hx hb dX0_addToken_131 (by decide) ?_
          have hP : va_P (dC, dI) vwCl (lmW cA a0 a1 a2 (adZ T Z stop, T, adK T Z K kd stop)) H := by rw [adZ, adK, psZ, hp_7, if_pos (by omega), if_neg (by omega), if_pos (by omega), pkT, show Z 11 = 1 by omega]; exact hP
          have hD : va_D A (lmW cA a0 a1 a2 (adZ T Z stop, T, adK T Z K kd stop)) := by rw [adZ, adK, psZ, hp_7, if_pos (by omega), if_neg (by omega), if_pos (by omega), pkT, show Z 11 = 1 by omega]; exact hD
          exact W.iret (v := nI 0) hx hb hr (fun t ht hW => ⟨⟨_, (adZ T Z stop, T, adK T Z K kd stop), rfl, ⟨rfl, rfl⟩, by rw [ht]; exact hP, va_K.moved hW.alike hK, hD⟩, hS.F ht⟩) hS.2.2 dX0_addToken_132
set_option maxHeartbeats 4000000 in
set_option maxRecDepth 100000 in
theorem c_passComment (l : Launch) (dC : Nat → ClassId) (dI : Nat → Nat → Nat) (cA : ClassId) (a0 a1 a2 : Nat) (sz : Nat) (Z : Nat → Nat) (T K : Nat → Int64) (q : Nat) (hn : Z 2 ≤ 32768) (hq : q < 2 ^ 29) (ha : Z 3 < 2 ^ 29) : Met l yX0_passComment wX0_passComment ({ frames := 4, cells := 0, slots := 0, locals := 88 }) (va_Pc [.ref a0, .int (nI q)] (lmP dC dI cA a0 a1 a2 sz (Z, T, K))) (va_Qi (fun (r : Int32) (u : lmU) => r = nI (pcZ T Z q).2 ∧ u = ((pcZ T Z q).1, T, K)) (lmB dC dI cA a0 a1 a2 (va_A (lmW cA a0 a1 a2 (Z, T, K)) sz)) (va_A (lmW cA a0 a1 a2 (Z, T, K)) sz)) 0 0 (va_A (lmW cA a0 a1 a2 (Z, T, K)) sz) := by
  refine Met.ofW (cc := cX0_passComment) (maxL := 3) (ret := (some .int)) (by decide) rfl ?_
  intro p e s m args below meth c s₁ B hml hv
  obtain ⟨rfl, hsz, hP, hK, hD0⟩ := hv
  have hx := B.exec
  have hb := B.bytes
  have hr := B.returns
  have hts : ∀ w ∈ bw, w.before _ s = true := fun w h => atoms_spec (ws := wX0_passComment) B.pre w (bc w h)
  have hown : s.vm.findClass RX0 = some m.cls := findClass_of_methodNamed B.named
  have hlocks := B.notSynchronized
  subst hsz
  have hD := hD0.self (sz := s.heap.size)
  generalize hAe : va_A (lmW cA a0 a1 a2 (Z, T, K)) s.heap.size = A at hD ⊢
  have hA : ∀ q : Nat, s.heap.size ≤ q → A q := fun q h => by rw [← hAe]; exact Or.inr h
  have hS : va_S A s.heap s.heap [] := va_S.rf
  have hl := lv_entry ([.ref a0, .int (nI q)]) (n := 3) (Nat.le_of_ble_eq_true rfl)
  rw [lg_entry_eq]
  generalize (lg_sl ([.ref a0, .int (nI q)]) ++ List.replicate (3 - (lg_sl ([.ref a0, .int (nI q)])).length) Slot.unset).toArray = ls at hl ⊢
  have hl : lv_has ls 3 [(0, .ref a0), (1, .int (nI q))] := hl
  refine lv_aload_n hx hb dX0_passComment_0 rfl (lv_at hl 0 rfl) ?_
  refine lv_iload_n hx hb dX0_passComment_1 rfl (lv_at hl 1 rfl) ?_
  refine vp_callSi (va_Run.run (va_runV (As := [.int (nI q)]) (rest := []) ⟨hx, hb, hml, hown, hts⟩ (c_commentEnd l dC dI cA a0 a1 a2 Z T K q (show Z 2 ≤ 32768 by omega) (show q < 2 ^ 30 - 1 by omega)) (cwV 1 hts (gV (fun _ h => h) ml_X0_152 im_X0_commentEnd se_X0_commentEnd ini_X0 co_X0_commentEnd) rfl rfl rfl pd_X0_commentEnd ⟨Nat.le_of_ble_eq_true rfl, Nat.le_of_ble_eq_true rfl⟩) (lm_preR hK hP) rfl rfl hl.1 rfl (lv_room (Nat.le_of_ble_eq_true rfl)) dX0_passComment_2 ⟨Nat.zero_le _, Nat.zero_le _⟩)) (fun r_1 (e_2 : r_1 = oI (cmE T (Z 2) q false)) => ?_)
  subst e_2
  refine lv_istore_n (lv' := [(2, .int (oI (cmE T (Z 2) q false))), (0, .ref a0), (1, .int (nI q))]) hx hb dX0_passComment_5 rfl hl (by decide) rfl (fun ls hl => ?_)
  refine lv_iload_n hx hb dX0_passComment_6 rfl (lv_at hl 0 rfl) ?_
  refine lv_iconst (v := (-1)) hx hb dX0_passComment_7 (by decide) ?_
  refine lv_icmp_ne (tgt := 21) hx hb dX0_passComment_8 (by decide) (fun c_3 => ?_) (fun c_3 => ?_)
  · obtain ⟨w_5, ho_4⟩ : ∃ k, cmE T (Z 2) q false = some k := Option.ne_none_iff_exists'.mp (fun z => c_3 (by rw [z]; rfl))
    have := cmE_b ho_4
    have hl : lv_has ls 3 [(2, .int (nI w_5)), (0, .ref a0), (1, .int (nI q))] := by rw [ho_4] at hl; exact hl
    refine lv_aload_n hx hb dX0_passComment_21 rfl (lv_at hl 1 rfl) ?_
    refine lv_iload_n hx hb dX0_passComment_22 rfl (lv_at hl 0 rfl) ?_
    refine lm_calli (va_runV (As := [.int (nI w_5)]) (rest := []) ⟨hx, hb, hml, hown, hts⟩ (c_passBlank l dC dI cA a0 a1 a2 s.heap.size Z T K w_5 (show Z 2 ≤ 32768 by omega) (show w_5 < 2 ^ 29 by omega) (show Z 3 < 2 ^ 29 by omega)) (cwV 1 hts (gV (fun _ h => h) ml_X0_112 im_X0_passBlank se_X0_passBlank ini_X0 co_X0_passBlank) rfl rfl rfl pd_X0_passBlank ⟨Nat.le_of_ble_eq_true rfl, Nat.le_of_ble_eq_true rfl⟩) (lm_preS hK hP hD) rfl rfl hl.1 rfl (lv_room (Nat.le_of_ble_eq_true rfl)) dX0_passComment_23 ⟨Nat.zero_le _, Nat.zero_le _⟩) hD hS hA (fun r_8 u_7 H locs q_6 hP hD hS => ?_)
    obtain ⟨rfl, rfl⟩ := q_6
    have hP : va_P (dC, dI) vwCl (lmW cA a0 a1 a2 ((pbZ T Z w_5), T, K)) H := hP
    have hD : va_D A (lmW cA a0 a1 a2 ((pbZ T Z w_5), T, K)) := hD
    have hP : va_P (dC, dI) vwCl (lmW cA a0 a1 a2 ((pcZ T Z q).1, T, K)) H := by simp only [pcZ, ho_4]; exact hP
    have hD : va_D A (lmW cA a0 a1 a2 ((pcZ T Z q).1, T, K)) := by simp only [pcZ, ho_4]; exact hD
    exact W.iret (v := nI 0) hx hb hr (fun t ht hW => ⟨⟨_, ((pcZ T Z q).1, T, K), rfl, ⟨by simp only [pcZ, ho_4], rfl⟩, by rw [ht]; exact hP, va_K.moved hW.alike hK, hD⟩, hS.F ht⟩) hS.2.2 dX0_passComment_26
  · have ho_9 : cmE T (Z 2) q false = none := (oI_m1 (fun k hk => by have := cmE_b hk; omega)).mp c_3
    refine lv_aload_n hx hb dX0_passComment_11 rfl (lv_at hl 1 rfl) ?_
    refine lv_aload_n hx hb dX0_passComment_12 rfl (lv_at hl 1 rfl) ?_
    refine va_get (D := (dC, dI)) (ci := 0) (v := .int (nI (Z 4))) (C := RX0) (T := TX0) (N := 16) hx hb hts inX0 hown hK hP 0 rfl rfl 4 (by decide) (hts _ fl_X0_68) (fun _ h9 => h9) rfl dX0_passComment_13 ?_
    refine lv_iconst (v := nI 1) hx hb dX0_passComment_16 (by decide) ?_
    refine lm_calli (va_runV (As := [.int (nI (Z 4)), .int (nI 1)]) (rest := []) ⟨hx, hb, hml, hown, hts⟩ (c_stopAt l dC dI cA a0 a1 a2 s.heap.size Z T K (Z 4) 1 ) (cwV 2 hts (gV (fun _ h => h) ml_X0_105 im_X0_stopAt se_X0_stopAt ini_X0 co_X0_stopAt) rfl rfl rfl pd_X0_stopAt ⟨Nat.le_of_ble_eq_true rfl, Nat.le_of_ble_eq_true rfl⟩) (lm_preS hK hP hD) rfl rfl hl.1 rfl (lv_room (Nat.le_of_ble_eq_true rfl)) dX0_passComment_17 ⟨Nat.zero_le _, Nat.zero_le _⟩) hD hS hA (fun r_12 u_11 H locs q_10 hP hD hS => ?_)
    obtain ⟨rfl, rfl⟩ := q_10
    have hP : va_P (dC, dI) vwCl (lmW cA a0 a1 a2 ((zu (zu Z 7 ((Z 4))) 8 1), T, K)) H := hP
    have hD : va_D A (lmW cA a0 a1 a2 ((zu (zu Z 7 ((Z 4))) 8 1), T, K)) := hD
    have hP : va_P (dC, dI) vwCl (lmW cA a0 a1 a2 ((pcZ T Z q).1, T, K)) H := by simp only [pcZ, ho_9]; exact hP
    have hD : va_D A (lmW cA a0 a1 a2 ((pcZ T Z q).1, T, K)) := by simp only [pcZ, ho_9]; exact hD
    exact W.iret (v := nI 1) hx hb hr (fun t ht hW => ⟨⟨_, ((pcZ T Z q).1, T, K), rfl, ⟨by simp only [pcZ, ho_9], rfl⟩, by rw [ht]; exact hP, va_K.moved hW.alike hK, hD⟩, hS.F ht⟩) hS.2.2 dX0_passComment_20
set_option maxHeartbeats 4000000 in
set_option maxRecDepth 100000 in
theorem k_quoteEnd_42 {p : Program} {l : Launch} {e : Env} {s : State} {m : MethodId} {args : Array Value} {below : List Frame} {meth : Method} {c : Code} {A : Nat → Prop} (hx : p.tables.exec = Jvm.exec) (hb : c.code = cX0_quoteEnd) (hr : meth.sig.returnType = (some .int)) (hml : c.maxLocals = 6) (hown : s.vm.findClass RX0 = some m.cls) (hts : ∀ w ∈ bw, w.before args s = true) (hlocks : meth.locks = false) {dC : Nat → ClassId} {dI : Nat → Nat → Nat} {cA : ClassId} {a0 a1 a2 : Nat} {Z : Nat → Nat} {T K : Nat → Int64} (hK : va_K (dC, dI) vwCl [(cA, .long)] s) (hA : ∀ q, s.heap.size ≤ q → A q) (y : Nat) (t0 : Nat) (hn : Z 2 ≤ 32768) (hy : y < 256) (ht0 : (t0 = 1 ∧ y = 34) ∨ (t0 = 0 ∧ ¬ y = 34)) (P : Int32 → lmU → Prop) : ∀ (k : Nat) (q : Nat), Z 2 - q < k → q < 2 ^ 29 → P (oI (qeR Z y (qtE T (Z 2) y q)).1) ((qeR Z y (qtE T (Z 2) y q)).2, T, K) → ∀ (H : Heap) (locs : List Loc), va_P (dC, dI) vwCl (lmW cA a0 a1 a2 (Z, T, K)) H → va_D A (lmW cA a0 a1 a2 (Z, T, K)) → va_S A s.heap H locs → ∀ ls, lv_has ls 6 [(0, .ref a0), (2, .int (bI y)), (3, .int (nI t0)), (4, .int (nI q))] → W p l e (headSpec wX0_quoteEnd ({ frames := 2, cells := 0, slots := 0, locals := 44 })).room s m args below meth c H locs 0 0 (MQ below (va_Qi P (lmB dC dI cA a0 a1 a2 A) A) args s 0 0 A) (F0 m 42 ls []) := by
  intro k
  induction k with
  | zero => intro q hk; exact absurd hk (by omega)
  | succ k ih =>
    intro q hk hq hQ H locs hP hD hS ls hl
    refine lv_iload hx hb dX0_quoteEnd_42 (lv_at hl 3 rfl) ?_
    refine lv_aload_n hx hb dX0_quoteEnd_44 rfl (lv_at hl 0 rfl) ?_
    refine va_get (D := (dC, dI)) (ci := 0) (v := .int (nI (Z 2))) (C := RX0) (T := TX0) (N := 16) hx hb hts inX0 hown hK hP 0 rfl rfl 2 (by decide) (hts _ fl_X0_19) (fun _ h9 => h9) rfl dX0_quoteEnd_45 ?_
    refine lv_icmp_ge (tgt := 129) hx hb dX0_quoteEnd_48 (by decide) (fun c_1 => ?_) (fun c_1 => ?_)
    · have c_1 := (nI_leI (a := Z 2) (b := q) (by omega) (by omega)).mp c_1
      refine lv_iload_n hx hb dX0_quoteEnd_129 rfl (lv_at hl 2 rfl) ?_
      refine lv_if_eq (tgt := 142) hx hb dX0_quoteEnd_130 (by decide) (fun c_2 => ?_) (fun c_2 => ?_)
      · have c_2 := (nI_eq (a := t0) (b := 0) (by omega) (by omega)).mp c_2
        refine lv_aload_n hx hb dX0_quoteEnd_142 rfl (lv_at hl 0 rfl) ?_
        refine lv_iload hx hb dX0_quoteEnd_143 (lv_at hl 3 rfl) ?_
        refine va_put (D := (dC, dI)) (ci := 0) (v := .int (nI q)) (ty := .int) (C := RX0) (T := TX0) (N := 16) hx hb hts inX0 tyX0 okX0 nmX0 hown hK hP hD hS 0 rfl rfl 15 (by decide) (hts _ fl_X0_99) (fun _ h9 => h9) rfl (by decide +kernel) rfl rfl (Nat.le_of_ble_eq_true rfl) dX0_quoteEnd_145 (fun H locs hP hD hS => ?_)
        have hP : va_P (dC, dI) vwCl (lmW cA a0 a1 a2 ((zu Z 15 q), T, K)) H := hP
        have hD : va_D A (lmW cA a0 a1 a2 ((zu Z 15 q), T, K)) := hD
        refine lv_iconst (v := (-1)) hx hb dX0_quoteEnd_148 (by decide) ?_
        exact W.iret (v := (-1)) hx hb hr (fun t ht hW => ⟨⟨_, ((zu Z 15 q), T, K), rfl, (by rw [qtE, if_neg (by omega), qeR_39 (by omega)] at hQ; exact hQ), by rw [ht]; exact hP, va_K.moved hW.alike hK, hD⟩, hS.F ht⟩) hS.2.2 dX0_quoteEnd_149
      · have c_2 := mt (nI_eq (a := t0) (b := 0) (by omega) (by omega)).mpr c_2
        refine lv_aload_n hx hb dX0_quoteEnd_133 rfl (lv_at hl 0 rfl) ?_
        refine lv_iload hx hb dX0_quoteEnd_134 (lv_at hl 3 rfl) ?_
        refine va_put (D := (dC, dI)) (ci := 0) (v := .int (nI q)) (ty := .int) (C := RX0) (T := TX0) (N := 16) hx hb hts inX0 tyX0 okX0 nmX0 hown hK hP hD hS 0 rfl rfl 14 (by decide) (hts _ fl_X0_96) (fun _ h9 => h9) rfl (by decide +kernel) rfl rfl (Nat.le_of_ble_eq_true rfl) dX0_quoteEnd_136 (fun H locs hP hD hS => ?_)
        have hP : va_P (dC, dI) vwCl (lmW cA a0 a1 a2 ((zu Z 14 q), T, K)) H := hP
        have hD : va_D A (lmW cA a0 a1 a2 ((zu Z 14 q), T, K)) := hD
        refine lv_goto (tgt := 148) hx hb dX0_quoteEnd_139 (by decide) ?_
        refine lv_iconst (v := (-1)) hx hb dX0_quoteEnd_148 (by decide) ?_
        exact W.iret (v := (-1)) hx hb hr (fun t ht hW => ⟨⟨_, ((zu Z 14 q), T, K), rfl, (by rw [qtE, if_neg (by omega), qeR_34 (by omega)] at hQ; exact hQ), by rw [ht]; exact hP, va_K.moved hW.alike hK, hD⟩, hS.F ht⟩) hS.2.2 dX0_quoteEnd_149
    · have c_1 := mt (nI_leI (a := Z 2) (b := q) (by omega) (by omega)).mpr c_1
      refine lv_aload_n hx hb dX0_quoteEnd_51 rfl (lv_at hl 0 rfl) ?_
      refine lv_iload hx hb dX0_quoteEnd_52 (lv_at hl 3 rfl) ?_
      refine vp_callSi (va_Run.run (va_runV (As := [.int (nI q)]) (rest := []) ⟨hx, hb, hml, hown, hts⟩ (c_byteAt l dC dI cA a0 a1 a2 Z T K q (show Z 2 ≤ 32768 by omega) (show q < 2 ^ 31 by omega)) (cwV 1 hts (gV (fun _ h => h) ml_X0_28 im_X0_byteAt se_X0_byteAt ini_X0 co_X0_byteAt) rfl rfl rfl pd_X0_byteAt ⟨Nat.le_of_ble_eq_true rfl, Nat.le_of_ble_eq_true rfl⟩) (lm_preR hK hP) rfl rfl hl.1 rfl (lv_room (Nat.le_of_ble_eq_true rfl)) dX0_quoteEnd_54 ⟨Nat.zero_le _, Nat.zero_le _⟩)) (fun r_3 (e_4 : r_3 = bI (gb T (Z 2) q)) => ?_)
      subst e_4
      have := gb_in T (Z 2) q
      refine lv_bipush (v := nI 10) hx hb dX0_quoteEnd_57 (by decide) ?_
      refine lv_icmp_eq (tgt := 129) hx hb dX0_quoteEnd_59 (by decide) (fun c_5 => ?_) (fun c_5 => ?_)
      · have c_5 := (bI_eqN (by omega)).mp c_5
        refine lv_iload_n hx hb dX0_quoteEnd_129 rfl (lv_at hl 2 rfl) ?_
        refine lv_if_eq (tgt := 142) hx hb dX0_quoteEnd_130 (by decide) (fun c_6 => ?_) (fun c_6 => ?_)
        · have c_6 := (nI_eq (a := t0) (b := 0) (by omega) (by omega)).mp c_6
          refine lv_aload_n hx hb dX0_quoteEnd_142 rfl (lv_at hl 0 rfl) ?_
          refine lv_iload hx hb dX0_quoteEnd_143 (lv_at hl 3 rfl) ?_
          refine va_put (D := (dC, dI)) (ci := 0) (v := .int (nI q)) (ty := .int) (C := RX0) (T := TX0) (N := 16) hx hb hts inX0 tyX0 okX0 nmX0 hown hK hP hD hS 0 rfl rfl 15 (by decide) (hts _ fl_X0_99) (fun _ h9 => h9) rfl (by decide +kernel) rfl rfl (Nat.le_of_ble_eq_true rfl) dX0_quoteEnd_145 (fun H locs hP hD hS => ?_)
          have hP : va_P (dC, dI) vwCl (lmW cA a0 a1 a2 ((zu Z 15 q), T, K)) H := hP
          have hD : va_D A (lmW cA a0 a1 a2 ((zu Z 15 q), T, K)) := hD
          refine lv_iconst (v := (-1)) hx hb dX0_quoteEnd_148 (by decide) ?_
          exact W.iret (v := (-1)) hx hb hr (fun t ht hW => ⟨⟨_, ((zu Z 15 q), T, K), rfl, (by rw [qtE, if_neg (by omega), qeR_39 (by omega)] at hQ; exact hQ), by rw [ht]; exact hP, va_K.moved hW.alike hK, hD⟩, hS.F ht⟩) hS.2.2 dX0_quoteEnd_149
        · have c_6 := mt (nI_eq (a := t0) (b := 0) (by omega) (by omega)).mpr c_6
          refine lv_aload_n hx hb dX0_quoteEnd_133 rfl (lv_at hl 0 rfl) ?_
          refine lv_iload hx hb dX0_quoteEnd_134 (lv_at hl 3 rfl) ?_
          refine va_put (D := (dC, dI)) (ci := 0) (v := .int (nI q)) (ty := .int) (C := RX0) (T := TX0) (N := 16) hx hb hts inX0 tyX0 okX0 nmX0 hown hK hP hD hS 0 rfl rfl 14 (by decide) (hts _ fl_X0_96) (fun _ h9 => h9) rfl (by decide +kernel) rfl rfl (Nat.le_of_ble_eq_true rfl) dX0_quoteEnd_136 (fun H locs hP hD hS => ?_)
          have hP : va_P (dC, dI) vwCl (lmW cA a0 a1 a2 ((zu Z 14 q), T, K)) H := hP
          have hD : va_D A (lmW cA a0 a1 a2 ((zu Z 14 q), T, K)) := hD
          refine lv_goto (tgt := 148) hx hb dX0_quoteEnd_139 (by decide) ?_
          refine lv_iconst (v := (-1)) hx hb dX0_quoteEnd_148 (by decide) ?_
          exact W.iret (v := (-1)) hx hb hr (fun t ht hW => ⟨⟨_, ((zu Z 14 q), T, K), rfl, (by rw [qtE, if_neg (by omega), qeR_34 (by omega)] at hQ; exact hQ), by rw [ht]; exact hP, va_K.moved hW.alike hK, hD⟩, hS.F ht⟩) hS.2.2 dX0_quoteEnd_149
      · have c_5 := mt (bI_eqN (by omega)).mpr c_5
        refine lv_aload_n hx hb dX0_quoteEnd_62 rfl (lv_at hl 0 rfl) ?_
        refine lv_iload hx hb dX0_quoteEnd_63 (lv_at hl 3 rfl) ?_
        refine vp_callSi (va_Run.run (va_runV (As := [.int (nI q)]) (rest := []) ⟨hx, hb, hml, hown, hts⟩ (c_byteAt l dC dI cA a0 a1 a2 Z T K q (show Z 2 ≤ 32768 by omega) (show q < 2 ^ 31 by omega)) (cwV 1 hts (gV (fun _ h => h) ml_X0_28 im_X0_byteAt se_X0_byteAt ini_X0 co_X0_byteAt) rfl rfl rfl pd_X0_byteAt ⟨Nat.le_of_ble_eq_true rfl, Nat.le_of_ble_eq_true rfl⟩) (lm_preR hK hP) rfl rfl hl.1 rfl (lv_room (Nat.le_of_ble_eq_true rfl)) dX0_quoteEnd_65 ⟨Nat.zero_le _, Nat.zero_le _⟩)) (fun r_7 (e_8 : r_7 = bI (gb T (Z 2) q)) => ?_)
        subst e_8
        have := gb_in T (Z 2) q
        refine lv_istore (lv' := [(5, .int (bI (gb T (Z 2) q))), (0, .ref a0), (2, .int (bI y)), (3, .int (nI t0)), (4, .int (nI q))]) hx hb dX0_quoteEnd_68 hl (by decide) rfl (fun ls hl => ?_)
        refine lv_aload_n hx hb dX0_quoteEnd_70 rfl (lv_at hl 1 rfl) ?_
        refine lv_iload hx hb dX0_quoteEnd_71 (lv_at hl 4 rfl) ?_
        refine lv_iconst (v := nI 1) hx hb dX0_quoteEnd_73 (by decide) ?_
        refine lv_iadd hx hb dX0_quoteEnd_74 ?_
        refine lv_topi (fun x_9 e_10 => ?_)
        obtain rfl : x_9 = nI (q + 1) := e_10.trans (nI_add q 1)
        refine vp_callSi (va_Run.run (va_runV (As := [.int (nI (q + 1))]) (rest := []) ⟨hx, hb, hml, hown, hts⟩ (c_leftFrom l dC dI cA a0 a1 a2 Z T K (q + 1) (show Z 2 ≤ 32768 by omega) (show q + 1 < 2 ^ 30 by omega)) (cwV 1 hts (gV (fun _ h => h) ml_X0_42 im_X0_leftFrom se_X0_leftFrom ini_X0 co_X0_leftFrom) rfl rfl rfl pd_X0_leftFrom ⟨Nat.le_of_ble_eq_true rfl, Nat.le_of_ble_eq_true rfl⟩) (lm_preR hK hP) rfl rfl hl.1 rfl (lv_room (Nat.le_of_ble_eq_true rfl)) dX0_quoteEnd_75 ⟨Nat.zero_le _, Nat.zero_le _⟩)) (fun r_11 (e_12 : r_11 = nI (lf T (Z 2) (q + 1))) => ?_)
        subst e_12
        have := lf_b T (Z 2) (q + 1)
        refine lv_istore (lv' := [(4, .int (nI (lf T (Z 2) (q + 1)))), (5, .int (bI (gb T (Z 2) q))), (0, .ref a0), (2, .int (bI y)), (3, .int (nI t0))]) hx hb dX0_quoteEnd_78 hl (by decide) rfl (fun ls hl => ?_)
        refine lv_iload hx hb dX0_quoteEnd_80 (lv_at hl 1 rfl) ?_
        refine lv_iload_n hx hb dX0_quoteEnd_82 rfl (lv_at hl 3 rfl) ?_
        refine lv_icmp_ne (tgt := 89) hx hb dX0_quoteEnd_83 (by decide) (fun c_13 => ?_) (fun c_13 => ?_)
        · have c_13 := mt (bI_eqB).mpr c_13
          refine lv_iload hx hb dX0_quoteEnd_89 (lv_at hl 1 rfl) ?_
          refine lv_bipush (v := nI 92) hx hb dX0_quoteEnd_91 (by decide) ?_
          refine lv_icmp_ne (tgt := 126) hx hb dX0_quoteEnd_93 (by decide) (fun c_14 => ?_) (fun c_14 => ?_)
          · have c_14 := mt (bI_eqN (by omega)).mpr c_14
            refine lv_goto (tgt := 42) hx hb dX0_quoteEnd_126 (by decide) ?_
            exact ih (lf T (Z 2) (q + 1)) (by omega) (by omega) (by rw [qtE, if_pos (by omega), if_neg (by omega), if_neg (by omega)] at hQ; exact hQ) _ _ hP hD hS _ (lv_sub hl [2, 3, 4, 0] rfl)
          · have c_14 := (bI_eqN (by omega)).mp c_14
            refine lv_iload hx hb dX0_quoteEnd_96 (lv_at hl 0 rfl) ?_
            refine lv_aload_n hx hb dX0_quoteEnd_98 rfl (lv_at hl 2 rfl) ?_
            refine va_get (D := (dC, dI)) (ci := 0) (v := .int (nI (Z 2))) (C := RX0) (T := TX0) (N := 16) hx hb hts inX0 hown hK hP 0 rfl rfl 2 (by decide) (hts _ fl_X0_19) (fun _ h9 => h9) rfl dX0_quoteEnd_99 ?_
            refine lv_icmp_ge (tgt := 126) hx hb dX0_quoteEnd_102 (by decide) (fun c_15 => ?_) (fun c_15 => ?_)
            · have c_15 := (nI_leI (a := Z 2) (b := lf T (Z 2) (q + 1)) (by omega) (by omega)).mp c_15
              refine lv_goto (tgt := 42) hx hb dX0_quoteEnd_126 (by decide) ?_
              exact ih (lf T (Z 2) (q + 1)) (by omega) (by omega) (by rw [qtE, if_pos (by omega), if_neg (by omega), if_neg (by omega)] at hQ; exact hQ) _ _ hP hD hS _ (lv_sub hl [2, 3, 4, 0] rfl)
            · have c_15 := mt (nI_leI (a := Z 2) (b := lf T (Z 2) (q + 1)) (by omega) (by omega)).mpr c_15
              refine lv_aload_n hx hb dX0_quoteEnd_105 rfl (lv_at hl 2 rfl) ?_
              refine lv_iload hx hb dX0_quoteEnd_106 (lv_at hl 0 rfl) ?_
              refine vp_callSi (va_Run.run (va_runV (As := [.int (nI (lf T (Z 2) (q + 1)))]) (rest := []) ⟨hx, hb, hml, hown, hts⟩ (c_byteAt l dC dI cA a0 a1 a2 Z T K (lf T (Z 2) (q + 1)) (show Z 2 ≤ 32768 by omega) (show lf T (Z 2) (q + 1) < 2 ^ 31 by omega)) (cwV 1 hts (gV (fun _ h => h) ml_X0_28 im_X0_byteAt se_X0_byteAt ini_X0 co_X0_byteAt) rfl rfl rfl pd_X0_byteAt ⟨Nat.le_of_ble_eq_true rfl, Nat.le_of_ble_eq_true rfl⟩) (lm_preR hK hP) rfl rfl hl.1 rfl (lv_room (Nat.le_of_ble_eq_true rfl)) dX0_quoteEnd_108 ⟨Nat.zero_le _, Nat.zero_le _⟩)) (fun r_16 (e_17 : r_16 = bI (gb T (Z 2) (lf T (Z 2) (q + 1)))) => ?_)
              subst e_17
              have := gb_in T (Z 2) (lf T (Z 2) (q + 1))
              refine lv_bipush (v := nI 10) hx hb dX0_quoteEnd_111 (by decide) ?_
              refine lv_icmp_eq (tgt := 126) hx hb dX0_quoteEnd_113 (by decide) (fun c_18 => ?_) (fun c_18 => ?_)
              · have c_18 := (bI_eqN (by omega)).mp c_18
                refine lv_goto (tgt := 42) hx hb dX0_quoteEnd_126 (by decide) ?_
                exact ih (lf T (Z 2) (q + 1)) (by omega) (by omega) (by rw [qtE, if_pos (by omega), if_neg (by omega), if_neg (by omega)] at hQ; exact hQ) _ _ hP hD hS _ (lv_sub hl [2, 3, 4, 0] rfl)
              · have c_18 := mt (bI_eqN (by omega)).mpr c_18
                refine lv_aload_n hx hb dX0_quoteEnd_116 rfl (lv_at hl 2 rfl) ?_
                refine lv_iload hx hb dX0_quoteEnd_117 (lv_at hl 0 rfl) ?_
                refine lv_iconst (v := nI 1) hx hb dX0_quoteEnd_119 (by decide) ?_
                refine lv_iadd hx hb dX0_quoteEnd_120 ?_
                refine lv_topi (fun x_19 e_20 => ?_)
                obtain rfl : x_19 = nI (lf T (Z 2) (q + 1) + 1) := e_20.trans (nI_add (lf T (Z 2) (q + 1)) 1)
                refine vp_callSi (va_Run.run (va_runV (As := [.int (nI (lf T (Z 2) (q + 1) + 1))]) (rest := []) ⟨hx, hb, hml, hown, hts⟩ (c_leftFrom l dC dI cA a0 a1 a2 Z T K (lf T (Z 2) (q + 1) + 1) (show Z 2 ≤ 32768 by omega) (show lf T (Z 2) (q + 1) + 1 < 2 ^ 30 by omega)) (cwV 1 hts (gV (fun _ h => h) ml_X0_42 im_X0_leftFrom se_X0_leftFrom ini_X0 co_X0_leftFrom) rfl rfl rfl pd_X0_leftFrom ⟨Nat.le_of_ble_eq_true rfl, Nat.le_of_ble_eq_true rfl⟩) (lm_preR hK hP) rfl rfl hl.1 rfl (lv_room (Nat.le_of_ble_eq_true rfl)) dX0_quoteEnd_121 ⟨Nat.zero_le _, Nat.zero_le _⟩)) (fun r_21 (e_22 : r_21 = nI (lf T (Z 2) (lf T (Z 2) (q + 1) + 1))) => ?_)
                subst e_22
                have := lf_b T (Z 2) (lf T (Z 2) (q + 1) + 1)
                refine lv_istore (lv' := [(4, .int (nI (lf T (Z 2) (lf T (Z 2) (q + 1) + 1)))), (5, .int (bI (gb T (Z 2) q))), (0, .ref a0), (2, .int (bI y)), (3, .int (nI t0))]) hx hb dX0_quoteEnd_124 hl (by decide) rfl (fun ls hl => ?_)
                refine lv_goto (tgt := 42) hx hb dX0_quoteEnd_126 (by decide) ?_
                exact ih (lf T (Z 2) (lf T (Z 2) (q + 1) + 1)) (by omega) (by omega) (by rw [qtE, if_pos (by omega), if_neg (by omega), if_pos (by omega)] at hQ; exact hQ) _ _ hP hD hS _ (lv_sub hl [2, 3, 4, 0] rfl)
        · have c_13 := (bI_eqB).mp c_13
          refine lv_iload hx hb dX0_quoteEnd_86 (lv_at hl 0 rfl) ?_
          exact W.iret (v := nI (lf T (Z 2) (q + 1))) hx hb hr (fun t ht hW => ⟨⟨_, (Z, T, K), rfl, (by rw [qtE, if_pos (by omega), if_pos (by omega), qeR_t] at hQ; exact hQ), by rw [ht]; exact hP, va_K.moved hW.alike hK, hD⟩, hS.F ht⟩) hS.2.2 dX0_quoteEnd_88
set_option maxHeartbeats 4000000 in
set_option maxRecDepth 100000 in
theorem c_quoteEnd (l : Launch) (dC : Nat → ClassId) (dI : Nat → Nat → Nat) (cA : ClassId) (a0 a1 a2 : Nat) (sz : Nat) (Z : Nat → Nat) (T K : Nat → Int64) (g : Nat) (y : Nat) (hn : Z 2 ≤ 32768) (hy : y < 256) (hp : g < 2 ^ 28) (h14 : Z 14 < 2 ^ 29) (h15 : Z 15 < 2 ^ 29) : Met l yX0_quoteEnd wX0_quoteEnd ({ frames := 2, cells := 0, slots := 0, locals := 44 }) (va_Pc [.ref a0, .int (nI g), .int (bI y)] (lmP dC dI cA a0 a1 a2 sz (Z, T, K))) (va_Qi (fun (r : Int32) (u : lmU) => r = oI (qeZ T Z g y).1 ∧ u = ((qeZ T Z g y).2, T, K)) (lmB dC dI cA a0 a1 a2 (va_A (lmW cA a0 a1 a2 (Z, T, K)) sz)) (va_A (lmW cA a0 a1 a2 (Z, T, K)) sz)) 0 0 (va_A (lmW cA a0 a1 a2 (Z, T, K)) sz) := by
  refine Met.ofW (cc := cX0_quoteEnd) (maxL := 6) (ret := (some .int)) (by decide) rfl ?_
  intro p e s m args below meth c s₁ B hml hv
  obtain ⟨rfl, hsz, hP, hK, hD0⟩ := hv
  have hx := B.exec
  have hb := B.bytes
  have hr := B.returns
  have hts : ∀ w ∈ bw, w.before _ s = true := fun w h => atoms_spec (ws := wX0_quoteEnd) B.pre w (bc w h)
  have hown : s.vm.findClass RX0 = some m.cls := findClass_of_methodNamed B.named
  have hlocks := B.notSynchronized
  subst hsz
  have hD := hD0.self (sz := s.heap.size)
  generalize hAe : va_A (lmW cA a0 a1 a2 (Z, T, K)) s.heap.size = A at hD ⊢
  have hA : ∀ q : Nat, s.heap.size ≤ q → A q := fun q h => by rw [← hAe]; exact Or.inr h
  have hS : va_S A s.heap s.heap [] := va_S.rf
  have hl := lv_entry ([.ref a0, .int (nI g), .int (bI y)]) (n := 6) (Nat.le_of_ble_eq_true rfl)
  rw [lg_entry_eq]
  generalize (lg_sl ([.ref a0, .int (nI g), .int (bI y)]) ++ List.replicate (6 - (lg_sl ([.ref a0, .int (nI g), .int (bI y)])).length) Slot.unset).toArray = ls at hl ⊢
  have hl : lv_has ls 6 [(0, .ref a0), (1, .int (nI g)), (2, .int (bI y))] := hl
  refine lv_iload_n hx hb dX0_quoteEnd_0 rfl (lv_at hl 2 rfl) ?_
  refine lv_bipush (v := nI 34) hx hb dX0_quoteEnd_1 (by decide) ?_
  refine lv_icmp_ne (tgt := 10) hx hb dX0_quoteEnd_3 (by decide) (fun c_1 => ?_) (fun c_1 => ?_)
  · have c_1 := mt (bI_eqN (by omega)).mpr c_1
    refine lv_iconst (v := nI 0) hx hb dX0_quoteEnd_10 (by decide) ?_
    refine lv_istore_n (lv' := [(3, .int (nI 0)), (0, .ref a0), (1, .int (nI g)), (2, .int (bI y))]) hx hb dX0_quoteEnd_11 rfl hl (by decide) rfl (fun ls hl => ?_)
    refine lv_iload_n hx hb dX0_quoteEnd_12 rfl (lv_at hl 2 rfl) ?_
    refine lv_iload_n hx hb dX0_quoteEnd_13 rfl (lv_at hl 0 rfl) ?_
    refine lv_if_eq (tgt := 24) hx hb dX0_quoteEnd_14 (by decide) (fun c_2 => ?_) (fun c_2 => ?_)
    · have c_2 := (nI_eq (a := 0) (b := 0) (by omega) (by omega)).mp c_2
      refine lv_aload_n hx hb dX0_quoteEnd_24 rfl (lv_at hl 1 rfl) ?_
      refine va_get (D := (dC, dI)) (ci := 0) (v := .int (nI (Z 15))) (C := RX0) (T := TX0) (N := 16) hx hb hts inX0 hown hK hP 0 rfl rfl 15 (by decide) (hts _ fl_X0_99) (fun _ h9 => h9) rfl dX0_quoteEnd_25 ?_
      refine lv_icmp_ge (tgt := 33) hx hb dX0_quoteEnd_28 (by decide) (fun c_3 => ?_) (fun c_3 => ?_)
      · have c_3 := (nI_leI (a := Z 15) (b := g) (by omega) (by omega)).mp c_3
        refine lv_aload_n hx hb dX0_quoteEnd_33 rfl (lv_at hl 1 rfl) ?_
        refine lv_iload_n hx hb dX0_quoteEnd_34 rfl (lv_at hl 2 rfl) ?_
        refine lv_iconst (v := nI 1) hx hb dX0_quoteEnd_35 (by decide) ?_
        refine lv_iadd hx hb dX0_quoteEnd_36 ?_
        refine lv_topi (fun x_4 e_5 => ?_)
        obtain rfl : x_4 = nI (g + 1) := e_5.trans (nI_add g 1)
        refine vp_callSi (va_Run.run (va_runV (As := [.int (nI (g + 1))]) (rest := []) ⟨hx, hb, hml, hown, hts⟩ (c_leftFrom l dC dI cA a0 a1 a2 Z T K (g + 1) (show Z 2 ≤ 32768 by omega) (show g + 1 < 2 ^ 30 by omega)) (cwV 1 hts (gV (fun _ h => h) ml_X0_42 im_X0_leftFrom se_X0_leftFrom ini_X0 co_X0_leftFrom) rfl rfl rfl pd_X0_leftFrom ⟨Nat.le_of_ble_eq_true rfl, Nat.le_of_ble_eq_true rfl⟩) (lm_preR hK hP) rfl rfl hl.1 rfl (lv_room (Nat.le_of_ble_eq_true rfl)) dX0_quoteEnd_37 ⟨Nat.zero_le _, Nat.zero_le _⟩)) (fun r_6 (e_7 : r_6 = nI (lf T (Z 2) (g + 1))) => ?_)
        subst e_7
        have := lf_b T (Z 2) (g + 1)
        refine lv_istore (lv' := [(4, .int (nI (lf T (Z 2) (g + 1)))), (3, .int (nI 0)), (0, .ref a0), (1, .int (nI g)), (2, .int (bI y))]) hx hb dX0_quoteEnd_40 hl (by decide) rfl (fun ls hl => ?_)
        exact k_quoteEnd_42 hx hb hr hml hown hts hlocks hK hA y 0 hn hy (by omega) (fun r u => r = oI (qeZ T Z g y).1 ∧ u = ((qeZ T Z g y).2, T, K)) (Z 2 - lf T (Z 2) (g + 1) + 1) (lf T (Z 2) (g + 1)) (by omega) (by omega) (by rw [qeZ, if_neg (by rw [if_neg (by omega)]; omega)]; exact ⟨rfl, rfl⟩) _ _ hP hD hS _ (lv_sub hl [2, 4, 1, 0] rfl)
      · have c_3 := mt (nI_leI (a := Z 15) (b := g) (by omega) (by omega)).mpr c_3
        refine lv_iconst (v := (-1)) hx hb dX0_quoteEnd_31 (by decide) ?_
        exact W.iret (v := (-1)) hx hb hr (fun t ht hW => ⟨⟨_, (Z, T, K), rfl, (by rw [qeZ, if_pos (by rw [if_neg (by omega)]; omega)]; exact ⟨rfl, rfl⟩), by rw [ht]; exact hP, va_K.moved hW.alike hK, hD⟩, hS.F ht⟩) hS.2.2 dX0_quoteEnd_32
    · have c_2 := mt (nI_eq (a := 0) (b := 0) (by omega) (by omega)).mpr c_2
      omega
  · have c_1 := (bI_eqN (by omega)).mp c_1
    refine lv_iconst (v := nI 1) hx hb dX0_quoteEnd_6 (by decide) ?_
    refine lv_goto (tgt := 11) hx hb dX0_quoteEnd_7 (by decide) ?_
    refine lv_istore_n (lv' := [(3, .int (nI 1)), (0, .ref a0), (1, .int (nI g)), (2, .int (bI y))]) hx hb dX0_quoteEnd_11 rfl hl (by decide) rfl (fun ls hl => ?_)
    refine lv_iload_n hx hb dX0_quoteEnd_12 rfl (lv_at hl 2 rfl) ?_
    refine lv_iload_n hx hb dX0_quoteEnd_13 rfl (lv_at hl 0 rfl) ?_
    refine lv_if_eq (tgt := 24) hx hb dX0_quoteEnd_14 (by decide) (fun c_8 => ?_) (fun c_8 => ?_)
    · have c_8 := (nI_eq (a := 1) (b := 0) (by omega) (by omega)).mp c_8
      omega
    · have c_8 := mt (nI_eq (a := 1) (b := 0) (by omega) (by omega)).mpr c_8
      refine lv_aload_n hx hb dX0_quoteEnd_17 rfl (lv_at hl 1 rfl) ?_
      refine va_get (D := (dC, dI)) (ci := 0) (v := .int (nI (Z 14))) (C := RX0) (T := TX0) (N := 16) hx hb hts inX0 hown hK hP 0 rfl rfl 14 (by decide) (hts _ fl_X0_96) (fun _ h9 => h9) rfl dX0_quoteEnd_18 ?_
      refine lv_goto (tgt := 28) hx hb dX0_quoteEnd_21 (by decide) ?_
      refine lv_icmp_ge (tgt := 33) hx hb dX0_quoteEnd_28 (by decide) (fun c_9 => ?_) (fun c_9 => ?_)
      · have c_9 := (nI_leI (a := Z 14) (b := g) (by omega) (by omega)).mp c_9
        refine lv_aload_n hx hb dX0_quoteEnd_33 rfl (lv_at hl 1 rfl) ?_
        refine lv_iload_n hx hb dX0_quoteEnd_34 rfl (lv_at hl 2 rfl) ?_
        refine lv_iconst (v := nI 1) hx hb dX0_quoteEnd_35 (by decide) ?_
        refine lv_iadd hx hb dX0_quoteEnd_36 ?_
        refine lv_topi (fun x_10 e_11 => ?_)
        obtain rfl : x_10 = nI (g + 1) := e_11.trans (nI_add g 1)
        refine vp_callSi (va_Run.run (va_runV (As := [.int (nI (g + 1))]) (rest := []) ⟨hx, hb, hml, hown, hts⟩ (c_leftFrom l dC dI cA a0 a1 a2 Z T K (g + 1) (show Z 2 ≤ 32768 by omega) (show g + 1 < 2 ^ 30 by omega)) (cwV 1 hts (gV (fun _ h => h) ml_X0_42 im_X0_leftFrom se_X0_leftFrom ini_X0 co_X0_leftFrom) rfl rfl rfl pd_X0_leftFrom ⟨Nat.le_of_ble_eq_true rfl, Nat.le_of_ble_eq_true rfl⟩) (lm_preR hK hP) rfl rfl hl.1 rfl (lv_room (Nat.le_of_ble_eq_true rfl)) dX0_quoteEnd_37 ⟨Nat.zero_le _, Nat.zero_le _⟩)) (fun r_12 (e_13 : r_12 = nI (lf T (Z 2) (g + 1))) => ?_)
        subst e_13
        have := lf_b T (Z 2) (g + 1)
        refine lv_istore (lv' := [(4, .int (nI (lf T (Z 2) (g + 1)))), (3, .int (nI 1)), (0, .ref a0), (1, .int (nI g)), (2, .int (bI y))]) hx hb dX0_quoteEnd_40 hl (by decide) rfl (fun ls hl => ?_)
        exact k_quoteEnd_42 hx hb hr hml hown hts hlocks hK hA y 1 hn hy (by omega) (fun r u => r = oI (qeZ T Z g y).1 ∧ u = ((qeZ T Z g y).2, T, K)) (Z 2 - lf T (Z 2) (g + 1) + 1) (lf T (Z 2) (g + 1)) (by omega) (by omega) (by rw [qeZ, if_neg (by rw [if_pos (by omega)]; omega)]; exact ⟨rfl, rfl⟩) _ _ hP hD hS _ (lv_sub hl [2, 4, 1, 0] rfl)
      · have c_9 := mt (nI_leI (a := Z 14) (b := g) (by omega) (by omega)).mpr c_9
        refine lv_iconst (v := (-1)) hx hb dX0_quoteEnd_31 (by decide) ?_
        exact W.iret (v := (-1)) hx hb hr (fun t ht hW => ⟨⟨_, (Z, T, K), rfl, (by rw [qeZ, if_pos (by rw [if_pos (by omega)]; omega)]; exact ⟨rfl, rfl⟩), by rw [ht]; exact hP, va_K.moved hW.alike hK, hD⟩, hS.F ht⟩) hS.2.2 dX0_quoteEnd_32
set_option maxHeartbeats 4000000 in
set_option maxRecDepth 100000 in
theorem c_cutQuote (l : Launch) (dC : Nat → ClassId) (dI : Nat → Nat → Nat) (cA : ClassId) (a0 a1 a2 : Nat) (sz : Nat) (Z : Nat → Nat) (T K : Nat → Int64) (y : Nat) (hn : Z 2 ≤ 32768) (hy : y < 256) (h4 : Z 4 < 65536) (h6 : Z 6 < 2 ^ 29) (h10 : Z 10 < 2 ^ 29) (h11 : Z 11 ≤ 1) (h14 : Z 14 < 2 ^ 29) (h15 : Z 15 < 2 ^ 29) (ha : Z 3 < Z 2) : Met l yX0_cutQuote wX0_cutQuote ({ frames := 4, cells := 0, slots := 0, locals := 92 }) (va_Pc [.ref a0, .int (bI y)] (lmP dC dI cA a0 a1 a2 sz (Z, T, K))) (va_Qi (fun (r : Int32) (u : lmU) => r = nI (cqZ T Z K y).2.2 ∧ u = ((cqZ T Z K y).1, T, (cqZ T Z K y).2.1)) (lmB dC dI cA a0 a1 a2 (va_A (lmW cA a0 a1 a2 (Z, T, K)) sz)) (va_A (lmW cA a0 a1 a2 (Z, T, K)) sz)) 0 0 (va_A (lmW cA a0 a1 a2 (Z, T, K)) sz) := by
  refine Met.ofW (cc := cX0_cutQuote) (maxL := 3) (ret := (some .int)) (by decide) rfl ?_
  intro p e s m args below meth c s₁ B hml hv
  obtain ⟨rfl, hsz, hP, hK, hD0⟩ := hv
  have hx := B.exec
  have hb := B.bytes
  have hr := B.returns
  have hts : ∀ w ∈ bw, w.before _ s = true := fun w h => atoms_spec (ws := wX0_cutQuote) B.pre w (bc w h)
  have hown : s.vm.findClass RX0 = some m.cls := findClass_of_methodNamed B.named
  have hlocks := B.notSynchronized
  subst hsz
  have hD := hD0.self (sz := s.heap.size)
  generalize hAe : va_A (lmW cA a0 a1 a2 (Z, T, K)) s.heap.size = A at hD ⊢
  have hA : ∀ q : Nat, s.heap.size ≤ q → A q := fun q h => by rw [← hAe]; exact Or.inr h
  have hS : va_S A s.heap s.heap [] := va_S.rf
  have hl := lv_entry ([.ref a0, .int (bI y)]) (n := 3) (Nat.le_of_ble_eq_true rfl)
  rw [lg_entry_eq]
  generalize (lg_sl ([.ref a0, .int (bI y)]) ++ List.replicate (3 - (lg_sl ([.ref a0, .int (bI y)])).length) Slot.unset).toArray = ls at hl ⊢
  have hl : lv_has ls 3 [(0, .ref a0), (1, .int (bI y))] := hl
  refine lv_aload_n hx hb dX0_cutQuote_0 rfl (lv_at hl 0 rfl) ?_
  refine lv_aload_n hx hb dX0_cutQuote_1 rfl (lv_at hl 0 rfl) ?_
  refine va_get (D := (dC, dI)) (ci := 0) (v := .int (nI (Z 3))) (C := RX0) (T := TX0) (N := 16) hx hb hts inX0 hown hK hP 0 rfl rfl 3 (by decide) (hts _ fl_X0_39) (fun _ h9 => h9) rfl dX0_cutQuote_2 ?_
  refine lv_iload_n hx hb dX0_cutQuote_5 rfl (lv_at hl 1 rfl) ?_
  refine lm_calli (va_runV (As := [.int (nI (Z 3)), .int (bI y)]) (rest := []) ⟨hx, hb, hml, hown, hts⟩ (c_quoteEnd l dC dI cA a0 a1 a2 s.heap.size Z T K (Z 3) y (show Z 2 ≤ 32768 by omega) (show y < 256 by omega) (show Z 3 < 2 ^ 28 by omega) (show Z 14 < 2 ^ 29 by omega) (show Z 15 < 2 ^ 29 by omega)) (cwV 2 hts (gV (fun _ h => h) ml_X0_155 im_X0_quoteEnd se_X0_quoteEnd ini_X0 co_X0_quoteEnd) rfl rfl rfl pd_X0_quoteEnd ⟨Nat.le_of_ble_eq_true rfl, Nat.le_of_ble_eq_true rfl⟩) (lm_preS hK hP hD) rfl rfl hl.1 rfl (lv_room (Nat.le_of_ble_eq_true rfl)) dX0_cutQuote_6 ⟨Nat.zero_le _, Nat.zero_le _⟩) hD hS hA (fun r_3 u_2 H locs q_1 hP hD hS => ?_)
  obtain ⟨rfl, rfl⟩ := q_1
  have hf_2 : (qeZ T Z (Z 3) y).2 2 = Z 2 := qeZ_k (by decide) (by decide)
  have hf_3 : (qeZ T Z (Z 3) y).2 3 = Z 3 := qeZ_k (by decide) (by decide)
  have hf_4 : (qeZ T Z (Z 3) y).2 4 = Z 4 := qeZ_k (by decide) (by decide)
  have hf_6 : (qeZ T Z (Z 3) y).2 6 = Z 6 := qeZ_k (by decide) (by decide)
  have hf_10 : (qeZ T Z (Z 3) y).2 10 = Z 10 := qeZ_k (by decide) (by decide)
  have hf_11 : (qeZ T Z (Z 3) y).2 11 = Z 11 := qeZ_k (by decide) (by decide)
  obtain ⟨Z_4, hz_5⟩ : ∃ z, (qeZ T Z (Z 3) y).2 = z := ⟨_, rfl⟩
  rw [hz_5] at hP hD hf_2 hf_3 hf_4 hf_6 hf_10 hf_11
  have hP : va_P (dC, dI) vwCl (lmW cA a0 a1 a2 (Z_4, T, K)) H := hP
  have hD : va_D A (lmW cA a0 a1 a2 (Z_4, T, K)) := hD
  refine lv_istore_n (lv' := [(2, .int (oI (qeZ T Z (Z 3) y).1)), (0, .ref a0), (1, .int (bI y))]) hx hb dX0_cutQuote_9 rfl hl (by decide) rfl (fun ls hl => ?_)
  refine lv_iload_n hx hb dX0_cutQuote_10 rfl (lv_at hl 0 rfl) ?_
  refine lv_iconst (v := (-1)) hx hb dX0_cutQuote_11 (by decide) ?_
  refine lv_icmp_eq (tgt := 25) hx hb dX0_cutQuote_12 (by decide) (fun c_6 => ?_) (fun c_6 => ?_)
  · have ho_7 : (qeZ T Z (Z 3) y).1 = none := (oI_m1 (fun k hk => by have := qeZ_s hk; omega)).mp c_6
    refine lv_aload_n hx hb dX0_cutQuote_25 rfl (lv_at hl 1 rfl) ?_
    refine va_get (D := (dC, dI)) (ci := 0) (v := .int (nI (Z_4 6))) (C := RX0) (T := TX0) (N := 16) hx hb hts inX0 hown hK hP 0 rfl rfl 6 (by decide) (hts _ fl_X0_85) (fun _ h9 => h9) rfl dX0_cutQuote_26 ?_
    refine lv_sipush (v := nI 1000) hx hb dX0_cutQuote_29 (by decide) ?_
    refine lv_icmp_lt (tgt := 46) hx hb dX0_cutQuote_32 (by decide) (fun c_8 => ?_) (fun c_8 => ?_)
    · have c_8 := (nI_ltI (a := Z_4 6) (b := 1000) (by omega) (by omega)).mp c_8
      refine lv_aload_n hx hb dX0_cutQuote_46 rfl (lv_at hl 1 rfl) ?_
      refine lv_dup hx hb dX0_cutQuote_47 rfl ?_
      refine va_get (D := (dC, dI)) (ci := 0) (v := .int (nI (Z_4 6))) (C := RX0) (T := TX0) (N := 16) hx hb hts inX0 hown hK hP 0 rfl rfl 6 (by decide) (hts _ fl_X0_85) (fun _ h9 => h9) rfl dX0_cutQuote_48 ?_
      refine lv_iconst (v := nI 1) hx hb dX0_cutQuote_51 (by decide) ?_
      refine lv_iadd hx hb dX0_cutQuote_52 ?_
      refine lv_topi (fun x_9 e_10 => ?_)
      obtain rfl : x_9 = nI (Z_4 6 + 1) := e_10.trans (nI_add (Z_4 6) 1)
      refine va_put (D := (dC, dI)) (ci := 0) (v := .int (nI (Z_4 6 + 1))) (ty := .int) (C := RX0) (T := TX0) (N := 16) hx hb hts inX0 tyX0 okX0 nmX0 hown hK hP hD hS 0 rfl rfl 6 (by decide) (hts _ fl_X0_85) (fun _ h9 => h9) rfl (by decide +kernel) rfl rfl (Nat.le_of_ble_eq_true rfl) dX0_cutQuote_53 (fun H locs hP hD hS => ?_)
      have hP : va_P (dC, dI) vwCl (lmW cA a0 a1 a2 ((zu Z_4 6 (Z_4 6 + 1)), T, K)) H := hP
      have hD : va_D A (lmW cA a0 a1 a2 ((zu Z_4 6 (Z_4 6 + 1)), T, K)) := hD
      refine lv_aload_n hx hb dX0_cutQuote_56 rfl (lv_at hl 1 rfl) ?_
      refine lv_bipush (v := nI 6) hx hb dX0_cutQuote_57 (by decide) ?_
      refine lv_aload_n hx hb dX0_cutQuote_59 rfl (lv_at hl 1 rfl) ?_
      refine lv_aload_n hx hb dX0_cutQuote_60 rfl (lv_at hl 1 rfl) ?_
      refine va_get (D := (dC, dI)) (ci := 0) (v := .int (nI (Z_4 3))) (C := RX0) (T := TX0) (N := 16) hx hb hts inX0 hown hK hP 0 rfl rfl 3 (by decide) (hts _ fl_X0_39) (fun _ h9 => h9) rfl dX0_cutQuote_61 ?_
      refine lv_iconst (v := nI 1) hx hb dX0_cutQuote_64 (by decide) ?_
      refine lv_iadd hx hb dX0_cutQuote_65 ?_
      refine lv_topi (fun x_11 e_12 => ?_)
      obtain rfl : x_11 = nI (Z_4 3 + 1) := e_12.trans (nI_add (Z_4 3) 1)
      refine vp_callSi (va_Run.run (va_runV (As := [.int (nI (Z_4 3 + 1))]) (rest := [.int (nI 6), .ref a0]) ⟨hx, hb, hml, hown, hts⟩ (c_leftFrom l dC dI cA a0 a1 a2 (zu Z_4 6 (Z_4 6 + 1)) T K (Z_4 3 + 1) (show Z_4 2 ≤ 32768 by omega) (show Z_4 3 + 1 < 2 ^ 30 by omega)) (cwV 1 hts (gV (fun _ h => h) ml_X0_42 im_X0_leftFrom se_X0_leftFrom ini_X0 co_X0_leftFrom) rfl rfl rfl pd_X0_leftFrom ⟨Nat.le_of_ble_eq_true rfl, Nat.le_of_ble_eq_true rfl⟩) (lm_preR hK hP) rfl rfl hl.1 rfl (lv_room (Nat.le_of_ble_eq_true rfl)) dX0_cutQuote_66 ⟨Nat.zero_le _, Nat.zero_le _⟩)) (fun r_13 (e_14 : r_13 = nI (lf T (Z_4 2) (Z_4 3 + 1))) => ?_)
      subst e_14
      have := lf_b T (Z_4 2) (Z_4 3 + 1)
      refine lm_calli (va_runV (As := [.int (nI 6), .int (nI (lf T (Z_4 2) (Z_4 3 + 1)))]) (rest := []) ⟨hx, hb, hml, hown, hts⟩ (c_addToken l dC dI cA a0 a1 a2 H.size (zu Z_4 6 (Z_4 6 + 1)) T K 6 (lf T (Z_4 2) (Z_4 3 + 1)) (show Z_4 2 ≤ 32768 by omega) (show lf T (Z_4 2) (Z_4 3 + 1) ≤ Z_4 2 by omega) (show Z_4 3 ≤ Z_4 2 by omega) (show Z_4 4 < 65536 by omega) (show Z_4 10 < 2 ^ 29 by omega) (show Z_4 11 ≤ 1 by omega) (show 6 < 16 by omega)) (cwV 2 hts (gV (fun _ h => h) ml_X0_139 im_X0_addToken se_X0_addToken ini_X0 co_X0_addToken) rfl rfl rfl pd_X0_addToken ⟨Nat.le_of_ble_eq_true rfl, Nat.le_of_ble_eq_true rfl⟩) (lm_preS hK hP hD) rfl rfl hl.1 rfl (lv_room (Nat.le_of_ble_eq_true rfl)) dX0_cutQuote_69 ⟨Nat.zero_le _, Nat.zero_le _⟩) hD hS hA (fun r_17 u_16 H locs q_15 hP hD hS => ?_)
      obtain ⟨rfl, rfl⟩ := q_15
      have hP : va_P (dC, dI) vwCl (lmW cA a0 a1 a2 ((adZ T (zu Z_4 6 (Z_4 6 + 1)) (lf T (Z_4 2) (Z_4 3 + 1))), T, (adK T (zu Z_4 6 (Z_4 6 + 1)) K 6 (lf T (Z_4 2) (Z_4 3 + 1))))) H := hP
      have hD : va_D A (lmW cA a0 a1 a2 ((adZ T (zu Z_4 6 (Z_4 6 + 1)) (lf T (Z_4 2) (Z_4 3 + 1))), T, (adK T (zu Z_4 6 (Z_4 6 + 1)) K 6 (lf T (Z_4 2) (Z_4 3 + 1))))) := hD
      have hP : va_P (dC, dI) vwCl (lmW cA a0 a1 a2 ((cqZ T Z K y).1, T, (cqZ T Z K y).2.1)) H := by rw [cqZ, ho_7, hz_5, cqR, if_neg (by omega)]; exact hP
      have hD : va_D A (lmW cA a0 a1 a2 ((cqZ T Z K y).1, T, (cqZ T Z K y).2.1)) := by rw [cqZ, ho_7, hz_5, cqR, if_neg (by omega)]; exact hD
      exact W.iret (v := nI 0) hx hb hr (fun t ht hW => ⟨⟨_, ((cqZ T Z K y).1, T, (cqZ T Z K y).2.1), rfl, ⟨by rw [cqZ, ho_7, hz_5, cqR, if_neg (by omega)], rfl⟩, by rw [ht]; exact hP, va_K.moved hW.alike hK, hD⟩, hS.F ht⟩) hS.2.2 dX0_cutQuote_72
    · have c_8 := mt (nI_ltI (a := Z_4 6) (b := 1000) (by omega) (by omega)).mpr c_8
      refine lv_aload_n hx hb dX0_cutQuote_35 rfl (lv_at hl 1 rfl) ?_
      refine lv_aload_n hx hb dX0_cutQuote_36 rfl (lv_at hl 1 rfl) ?_
      refine va_get (D := (dC, dI)) (ci := 0) (v := .int (nI (Z_4 4))) (C := RX0) (T := TX0) (N := 16) hx hb hts inX0 hown hK hP 0 rfl rfl 4 (by decide) (hts _ fl_X0_68) (fun _ h9 => h9) rfl dX0_cutQuote_37 ?_
      refine lv_bipush (v := nI 21) hx hb dX0_cutQuote_40 (by decide) ?_
      refine lm_calli (va_runV (As := [.int (nI (Z_4 4)), .int (nI 21)]) (rest := []) ⟨hx, hb, hml, hown, hts⟩ (c_stopAt l dC dI cA a0 a1 a2 H.size Z_4 T K (Z_4 4) 21 ) (cwV 2 hts (gV (fun _ h => h) ml_X0_105 im_X0_stopAt se_X0_stopAt ini_X0 co_X0_stopAt) rfl rfl rfl pd_X0_stopAt ⟨Nat.le_of_ble_eq_true rfl, Nat.le_of_ble_eq_true rfl⟩) (lm_preS hK hP hD) rfl rfl hl.1 rfl (lv_room (Nat.le_of_ble_eq_true rfl)) dX0_cutQuote_42 ⟨Nat.zero_le _, Nat.zero_le _⟩) hD hS hA (fun r_20 u_19 H locs q_18 hP hD hS => ?_)
      obtain ⟨rfl, rfl⟩ := q_18
      have hP : va_P (dC, dI) vwCl (lmW cA a0 a1 a2 ((zu (zu Z_4 7 ((Z_4 4))) 8 1), T, K)) H := hP
      have hD : va_D A (lmW cA a0 a1 a2 ((zu (zu Z_4 7 ((Z_4 4))) 8 1), T, K)) := hD
      have hP : va_P (dC, dI) vwCl (lmW cA a0 a1 a2 ((cqZ T Z K y).1, T, (cqZ T Z K y).2.1)) H := by rw [cqZ, ho_7, hz_5, cqR, if_pos (by omega)]; exact hP
      have hD : va_D A (lmW cA a0 a1 a2 ((cqZ T Z K y).1, T, (cqZ T Z K y).2.1)) := by rw [cqZ, ho_7, hz_5, cqR, if_pos (by omega)]; exact hD
      exact W.iret (v := nI 21) hx hb hr (fun t ht hW => ⟨⟨_, ((cqZ T Z K y).1, T, (cqZ T Z K y).2.1), rfl, ⟨by rw [cqZ, ho_7, hz_5, cqR, if_pos (by omega)], rfl⟩, by rw [ht]; exact hP, va_K.moved hW.alike hK, hD⟩, hS.F ht⟩) hS.2.2 dX0_cutQuote_45
  · obtain ⟨w_22, ho_21⟩ : ∃ k, (qeZ T Z (Z 3) y).1 = some k := Option.ne_none_iff_exists'.mp (fun z => c_6 (by rw [z]; rfl))
    have := qeZ_s ho_21
    have hl : lv_has ls 3 [(2, .int (nI w_22)), (0, .ref a0), (1, .int (bI y))] := by rw [ho_21] at hl; exact hl
    refine lv_aload_n hx hb dX0_cutQuote_15 rfl (lv_at hl 1 rfl) ?_
    refine lv_iload_n hx hb dX0_cutQuote_16 rfl (lv_at hl 2 rfl) ?_
    refine vp_callSi (va_Run.run (va_runS (As := [.int (bI y)]) (rest := [.ref a0]) ⟨hx, hb, hml, hown, hts⟩ (c_kindOfQuote l y) (cwS 1 hts (gS (fun _ h => h) ml_X0_158 sm_X0_kindOfQuote ini_X0 co_X0_kindOfQuote) rfl rfl rfl pd_X0_kindOfQuote ⟨Nat.le_of_ble_eq_true rfl, Nat.le_of_ble_eq_true rfl⟩) st_pre rfl rfl hl.1 rfl (lv_room (Nat.le_of_ble_eq_true rfl)) dX0_cutQuote_17 ⟨Nat.zero_le _, Nat.zero_le _⟩)) (fun r_23 (e_24 : r_23 = nI (kdQ y)) => ?_)
    subst e_24
    have : kdQ y < 16 := by rw [kdQ]; split <;> omega
    refine lv_iload_n hx hb dX0_cutQuote_20 rfl (lv_at hl 0 rfl) ?_
    refine lm_calli (va_runV (As := [.int (nI (kdQ y)), .int (nI w_22)]) (rest := []) ⟨hx, hb, hml, hown, hts⟩ (c_addToken l dC dI cA a0 a1 a2 H.size Z_4 T K (kdQ y) w_22 (show Z_4 2 ≤ 32768 by omega) (show w_22 ≤ Z_4 2 by omega) (show Z_4 3 ≤ Z_4 2 by omega) (show Z_4 4 < 65536 by omega) (show Z_4 10 < 2 ^ 29 by omega) (show Z_4 11 ≤ 1 by omega) (show kdQ y < 16 by omega)) (cwV 2 hts (gV (fun _ h => h) ml_X0_139 im_X0_addToken se_X0_addToken ini_X0 co_X0_addToken) rfl rfl rfl pd_X0_addToken ⟨Nat.le_of_ble_eq_true rfl, Nat.le_of_ble_eq_true rfl⟩) (lm_preS hK hP hD) rfl rfl hl.1 rfl (lv_room (Nat.le_of_ble_eq_true rfl)) dX0_cutQuote_21 ⟨Nat.zero_le _, Nat.zero_le _⟩) hD hS hA (fun r_27 u_26 H locs q_25 hP hD hS => ?_)
    obtain ⟨rfl, rfl⟩ := q_25
    have hP : va_P (dC, dI) vwCl (lmW cA a0 a1 a2 ((adZ T Z_4 w_22), T, (adK T Z_4 K (kdQ y) w_22))) H := hP
    have hD : va_D A (lmW cA a0 a1 a2 ((adZ T Z_4 w_22), T, (adK T Z_4 K (kdQ y) w_22))) := hD
    have hP : va_P (dC, dI) vwCl (lmW cA a0 a1 a2 ((cqZ T Z K y).1, T, (cqZ T Z K y).2.1)) H := by rw [cqZ, ho_21, hz_5, cqR]; exact hP
    have hD : va_D A (lmW cA a0 a1 a2 ((cqZ T Z K y).1, T, (cqZ T Z K y).2.1)) := by rw [cqZ, ho_21, hz_5, cqR]; exact hD
    exact W.iret (v := nI 0) hx hb hr (fun t ht hW => ⟨⟨_, ((cqZ T Z K y).1, T, (cqZ T Z K y).2.1), rfl, ⟨by rw [cqZ, ho_21, hz_5, cqR], rfl⟩, by rw [ht]; exact hP, va_K.moved hW.alike hK, hD⟩, hS.F ht⟩) hS.2.2 dX0_cutQuote_24
set_option maxHeartbeats 4000000 in
set_option maxRecDepth 100000 in
theorem c_cutWide (l : Launch) (dC : Nat → ClassId) (dI : Nat → Nat → Nat) (cA : ClassId) (a0 a1 a2 : Nat) (sz : Nat) (Z : Nat → Nat) (T K : Nat → Int64) (g : Nat) (y : Nat) (hn : Z 2 ≤ 32768) (hy : y < 256) (h4 : Z 4 < 65536) (h6 : Z 6 < 2 ^ 29) (h10 : Z 10 < 2 ^ 29) (h11 : Z 11 ≤ 1) (h14 : Z 14 < 2 ^ 29) (h15 : Z 15 < 2 ^ 29) (ha : Z 3 ≤ Z 2) (hp : g < Z 2) : Met l yX0_cutWide wX0_cutWide ({ frames := 4, cells := 0, slots := 0, locals := 92 }) (va_Pc [.ref a0, .int (nI g), .int (bI y)] (lmP dC dI cA a0 a1 a2 sz (Z, T, K))) (va_Qi (fun (r : Int32) (u : lmU) => r = nI (cwZ T Z K g y).2.2 ∧ u = ((cwZ T Z K g y).1, T, (cwZ T Z K g y).2.1)) (lmB dC dI cA a0 a1 a2 (va_A (lmW cA a0 a1 a2 (Z, T, K)) sz)) (va_A (lmW cA a0 a1 a2 (Z, T, K)) sz)) 0 0 (va_A (lmW cA a0 a1 a2 (Z, T, K)) sz) := by
  refine Met.ofW (cc := cX0_cutWide) (maxL := 4) (ret := (some .int)) (by decide) rfl ?_
  intro p e s m args below meth c s₁ B hml hv
  obtain ⟨rfl, hsz, hP, hK, hD0⟩ := hv
  have hx := B.exec
  have hb := B.bytes
  have hr := B.returns
  have hts : ∀ w ∈ bw, w.before _ s = true := fun w h => atoms_spec (ws := wX0_cutWide) B.pre w (bc w h)
  have hown : s.vm.findClass RX0 = some m.cls := findClass_of_methodNamed B.named
  have hlocks := B.notSynchronized
  subst hsz
  have hD := hD0.self (sz := s.heap.size)
  generalize hAe : va_A (lmW cA a0 a1 a2 (Z, T, K)) s.heap.size = A at hD ⊢
  have hA : ∀ q : Nat, s.heap.size ≤ q → A q := fun q h => by rw [← hAe]; exact Or.inr h
  have hS : va_S A s.heap s.heap [] := va_S.rf
  have hl := lv_entry ([.ref a0, .int (nI g), .int (bI y)]) (n := 4) (Nat.le_of_ble_eq_true rfl)
  rw [lg_entry_eq]
  generalize (lg_sl ([.ref a0, .int (nI g), .int (bI y)]) ++ List.replicate (4 - (lg_sl ([.ref a0, .int (nI g), .int (bI y)])).length) Slot.unset).toArray = ls at hl ⊢
  have hl : lv_has ls 4 [(0, .ref a0), (1, .int (nI g)), (2, .int (bI y))] := hl
  refine lv_aload_n hx hb dX0_cutWide_0 rfl (lv_at hl 0 rfl) ?_
  refine lv_iload_n hx hb dX0_cutWide_1 rfl (lv_at hl 1 rfl) ?_
  refine lv_iload_n hx hb dX0_cutWide_2 rfl (lv_at hl 2 rfl) ?_
  refine lm_calli (va_runV (As := [.int (nI g), .int (bI y)]) (rest := []) ⟨hx, hb, hml, hown, hts⟩ (c_quoteEnd l dC dI cA a0 a1 a2 s.heap.size Z T K g y (show Z 2 ≤ 32768 by omega) (show y < 256 by omega) (show g < 2 ^ 28 by omega) (show Z 14 < 2 ^ 29 by omega) (show Z 15 < 2 ^ 29 by omega)) (cwV 2 hts (gV (fun _ h => h) ml_X0_155 im_X0_quoteEnd se_X0_quoteEnd ini_X0 co_X0_quoteEnd) rfl rfl rfl pd_X0_quoteEnd ⟨Nat.le_of_ble_eq_true rfl, Nat.le_of_ble_eq_true rfl⟩) (lm_preS hK hP hD) rfl rfl hl.1 rfl (lv_room (Nat.le_of_ble_eq_true rfl)) dX0_cutWide_3 ⟨Nat.zero_le _, Nat.zero_le _⟩) hD hS hA (fun r_3 u_2 H locs q_1 hP hD hS => ?_)
  obtain ⟨rfl, rfl⟩ := q_1
  have hf_2 : (qeZ T Z g y).2 2 = Z 2 := qeZ_k (by decide) (by decide)
  have hf_3 : (qeZ T Z g y).2 3 = Z 3 := qeZ_k (by decide) (by decide)
  have hf_4 : (qeZ T Z g y).2 4 = Z 4 := qeZ_k (by decide) (by decide)
  have hf_6 : (qeZ T Z g y).2 6 = Z 6 := qeZ_k (by decide) (by decide)
  have hf_10 : (qeZ T Z g y).2 10 = Z 10 := qeZ_k (by decide) (by decide)
  have hf_11 : (qeZ T Z g y).2 11 = Z 11 := qeZ_k (by decide) (by decide)
  obtain ⟨Z_4, hz_5⟩ : ∃ z, (qeZ T Z g y).2 = z := ⟨_, rfl⟩
  rw [hz_5] at hP hD hf_2 hf_3 hf_4 hf_6 hf_10 hf_11
  have hP : va_P (dC, dI) vwCl (lmW cA a0 a1 a2 (Z_4, T, K)) H := hP
  have hD : va_D A (lmW cA a0 a1 a2 (Z_4, T, K)) := hD
  refine lv_istore_n (lv' := [(3, .int (oI (qeZ T Z g y).1)), (0, .ref a0), (1, .int (nI g)), (2, .int (bI y))]) hx hb dX0_cutWide_6 rfl hl (by decide) rfl (fun ls hl => ?_)
  refine lv_iload_n hx hb dX0_cutWide_7 rfl (lv_at hl 0 rfl) ?_
  refine lv_iconst (v := (-1)) hx hb dX0_cutWide_8 (by decide) ?_
  refine lv_icmp_ne (tgt := 19) hx hb dX0_cutWide_9 (by decide) (fun c_6 => ?_) (fun c_6 => ?_)
  · obtain ⟨w_8, ho_7⟩ : ∃ k, (qeZ T Z g y).1 = some k := Option.ne_none_iff_exists'.mp (fun z => c_6 (by rw [z]; rfl))
    have := qeZ_s ho_7
    have hl : lv_has ls 4 [(3, .int (nI w_8)), (0, .ref a0), (1, .int (nI g)), (2, .int (bI y))] := by rw [ho_7] at hl; exact hl
    refine lv_aload_n hx hb dX0_cutWide_19 rfl (lv_at hl 1 rfl) ?_
    refine lv_iload_n hx hb dX0_cutWide_20 rfl (lv_at hl 3 rfl) ?_
    refine vp_callSi (va_Run.run (va_runS (As := [.int (bI y)]) (rest := [.ref a0]) ⟨hx, hb, hml, hown, hts⟩ (c_kindOfQuote l y) (cwS 1 hts (gS (fun _ h => h) ml_X0_158 sm_X0_kindOfQuote ini_X0 co_X0_kindOfQuote) rfl rfl rfl pd_X0_kindOfQuote ⟨Nat.le_of_ble_eq_true rfl, Nat.le_of_ble_eq_true rfl⟩) st_pre rfl rfl hl.1 rfl (lv_room (Nat.le_of_ble_eq_true rfl)) dX0_cutWide_21 ⟨Nat.zero_le _, Nat.zero_le _⟩)) (fun r_9 (e_10 : r_9 = nI (kdQ y)) => ?_)
    subst e_10
    have : kdQ y < 16 := by rw [kdQ]; split <;> omega
    refine lv_iload_n hx hb dX0_cutWide_24 rfl (lv_at hl 0 rfl) ?_
    refine lm_calli (va_runV (As := [.int (nI (kdQ y)), .int (nI w_8)]) (rest := []) ⟨hx, hb, hml, hown, hts⟩ (c_addToken l dC dI cA a0 a1 a2 H.size Z_4 T K (kdQ y) w_8 (show Z_4 2 ≤ 32768 by omega) (show w_8 ≤ Z_4 2 by omega) (show Z_4 3 ≤ Z_4 2 by omega) (show Z_4 4 < 65536 by omega) (show Z_4 10 < 2 ^ 29 by omega) (show Z_4 11 ≤ 1 by omega) (show kdQ y < 16 by omega)) (cwV 2 hts (gV (fun _ h => h) ml_X0_139 im_X0_addToken se_X0_addToken ini_X0 co_X0_addToken) rfl rfl rfl pd_X0_addToken ⟨Nat.le_of_ble_eq_true rfl, Nat.le_of_ble_eq_true rfl⟩) (lm_preS hK hP hD) rfl rfl hl.1 rfl (lv_room (Nat.le_of_ble_eq_true rfl)) dX0_cutWide_25 ⟨Nat.zero_le _, Nat.zero_le _⟩) hD hS hA (fun r_13 u_12 H locs q_11 hP hD hS => ?_)
    obtain ⟨rfl, rfl⟩ := q_11
    have hP : va_P (dC, dI) vwCl (lmW cA a0 a1 a2 ((adZ T Z_4 w_8), T, (adK T Z_4 K (kdQ y) w_8))) H := hP
    have hD : va_D A (lmW cA a0 a1 a2 ((adZ T Z_4 w_8), T, (adK T Z_4 K (kdQ y) w_8))) := hD
    have hP : va_P (dC, dI) vwCl (lmW cA a0 a1 a2 ((cwZ T Z K g y).1, T, (cwZ T Z K g y).2.1)) H := by rw [cwZ, ho_7, hz_5, cwR]; exact hP
    have hD : va_D A (lmW cA a0 a1 a2 ((cwZ T Z K g y).1, T, (cwZ T Z K g y).2.1)) := by rw [cwZ, ho_7, hz_5, cwR]; exact hD
    exact W.iret (v := nI 0) hx hb hr (fun t ht hW => ⟨⟨_, ((cwZ T Z K g y).1, T, (cwZ T Z K g y).2.1), rfl, ⟨by rw [cwZ, ho_7, hz_5, cwR], rfl⟩, by rw [ht]; exact hP, va_K.moved hW.alike hK, hD⟩, hS.F ht⟩) hS.2.2 dX0_cutWide_28
  · have ho_14 : (qeZ T Z g y).1 = none := (oI_m1 (fun k hk => by have := qeZ_s hk; omega)).mp c_6
    refine lv_aload_n hx hb dX0_cutWide_12 rfl (lv_at hl 1 rfl) ?_
    refine lv_iconst (v := nI 1) hx hb dX0_cutWide_13 (by decide) ?_
    refine lv_iload_n hx hb dX0_cutWide_14 rfl (lv_at hl 2 rfl) ?_
    refine lm_calli (va_runV (As := [.int (nI 1), .int (nI g)]) (rest := []) ⟨hx, hb, hml, hown, hts⟩ (c_addToken l dC dI cA a0 a1 a2 H.size Z_4 T K 1 g (show Z_4 2 ≤ 32768 by omega) (show g ≤ Z_4 2 by omega) (show Z_4 3 ≤ Z_4 2 by omega) (show Z_4 4 < 65536 by omega) (show Z_4 10 < 2 ^ 29 by omega) (show Z_4 11 ≤ 1 by omega) (show 1 < 16 by omega)) (cwV 2 hts (gV (fun _ h => h) ml_X0_139 im_X0_addToken se_X0_addToken ini_X0 co_X0_addToken) rfl rfl rfl pd_X0_addToken ⟨Nat.le_of_ble_eq_true rfl, Nat.le_of_ble_eq_true rfl⟩) (lm_preS hK hP hD) rfl rfl hl.1 rfl (lv_room (Nat.le_of_ble_eq_true rfl)) dX0_cutWide_15 ⟨Nat.zero_le _, Nat.zero_le _⟩) hD hS hA (fun r_17 u_16 H locs q_15 hP hD hS => ?_)
    obtain ⟨rfl, rfl⟩ := q_15
    have hP : va_P (dC, dI) vwCl (lmW cA a0 a1 a2 ((adZ T Z_4 g), T, (adK T Z_4 K 1 g))) H := hP
    have hD : va_D A (lmW cA a0 a1 a2 ((adZ T Z_4 g), T, (adK T Z_4 K 1 g))) := hD
    have hP : va_P (dC, dI) vwCl (lmW cA a0 a1 a2 ((cwZ T Z K g y).1, T, (cwZ T Z K g y).2.1)) H := by rw [cwZ, ho_14, hz_5, cwR]; exact hP
    have hD : va_D A (lmW cA a0 a1 a2 ((cwZ T Z K g y).1, T, (cwZ T Z K g y).2.1)) := by rw [cwZ, ho_14, hz_5, cwR]; exact hD
    exact W.iret (v := nI 0) hx hb hr (fun t ht hW => ⟨⟨_, ((cwZ T Z K g y).1, T, (cwZ T Z K g y).2.1), rfl, ⟨by rw [cwZ, ho_14, hz_5, cwR], rfl⟩, by rw [ht]; exact hP, va_K.moved hW.alike hK, hD⟩, hS.F ht⟩) hS.2.2 dX0_cutWide_18
end
section
/-! the String constants (by their number), and what the JDK's String methods answer of them -/
def lS : List Nat := [9, 40, 25, 4, 8, 12, 25]
def bS : List (List Int32) := [[46, 46, 46, 60, 60, 61, 62, 62, 61], [45, 62, 43, 43, 45, 45, 60, 60, 62, 62, 60, 61, 62, 61, 61, 61, 33, 61, 38, 38, 124, 124, 42, 61, 47, 61, 37, 61, 43, 61, 45, 61, 38, 61, 94, 61, 124, 61, 35, 35], [35, 91, 93, 40, 41, 123, 125, 46, 38, 42, 43, 45, 126, 33, 47, 37, 60, 62, 94, 124, 63, 58, 59, 61, 44], [101, 69, 112, 80], [43, 45, 60, 62, 61, 38, 124, 35], [60, 62, 61, 33, 42, 47, 37, 43, 45, 38, 94, 124], [35, 91, 93, 40, 41, 123, 125, 46, 38, 42, 43, 45, 126, 33, 47, 37, 60, 62, 94, 124, 63, 58, 61, 44, 59]]
def nS : List (List Nat) := [[46, 46, 46, 60, 60, 61, 62, 62, 61], [45, 62, 43, 43, 45, 45, 60, 60, 62, 62, 60, 61, 62, 61, 61, 61, 33, 61, 38, 38, 124, 124, 42, 61, 47, 61, 37, 61, 43, 61, 45, 61, 38, 61, 94, 61, 124, 61, 35, 35], [35, 91, 93, 40, 41, 123, 125, 46, 38, 42, 43, 45, 126, 33, 47, 37, 60, 62, 94, 124, 63, 58, 59, 61, 44], [101, 69, 112, 80], [43, 45, 60, 62, 61, 38, 124, 35], [60, 62, 61, 33, 42, 47, 37, 43, 45, 38, 94, 124], [35, 91, 93, 40, 41, 123, 125, 46, 38, 42, 43, 45, 126, 33, 47, 37, 60, 62, 94, 124, 63, 58, 61, 44, 59]]
def cS (i j : Nat) : Nat := (nS.getD i []).getD j 0
theorem bS_n : ∀ i, i < 7 → ∀ j, j < lS.getD i 0 → (bS.getD i []).getD j 0 = nI (cS i j) ∧ cS i j < 128 := by decide +kernel
theorem lS_b : ∀ i, i < 7 → lS.getD i 0 < 64 := by decide +kernel
def swd (dK dV : Nat → Nat) (A0 : Nat → Prop) (U : State) (H : Heap) : Prop := vk_S 7 lS bS dK dV A0 U H ∧ va_Z "java/lang/String" "COMPACT_STRINGS" "Z" (.int 1) A0 U H ∧ va_Zq "jdk/internal/util/Preconditions" "SIOOBE_FORMATTER" "Ljava/util/function/BiFunction;" A0 U H ∧ vk_R RX0 161 "...<<=>>=" (dK 0) U ∧ vk_R RX0 167 "->++--<<>><=>===!=&&||*=/=%=+=-=&=^=|=##" (dK 1) U ∧ vk_R RX0 169 "#[](){}.&*+-~!/%<>^|?:;=," (dK 2) U ∧ vk_R RX1 102 "eEpP" (dK 3) U ∧ vk_R RX1 83 "+-<>=&|#" (dK 4) U ∧ vk_R RX1 89 "<>=!*/%+-&^|" (dK 5) U ∧ vk_R RX1 139 "#[](){}.&*+-~!/%<>^|?:=,;" (dK 6) U
theorem swd.warm {dK dV : Nat → Nat} {A0 : Nat → Prop} {s U : State} {H : Heap} (hW : s.WarmedH U.vm) (h : swd dK dV A0 s H) : swd dK dV A0 U H := by
  obtain ⟨h1, h2, h3, r0, r1, r2, r3, r4, r5, r6⟩ := h
  exact ⟨h1.moved hW.alike, h2.moved hW.alike, h3.moved hW.alike, r0.warm hW, r1.warm hW, r2.warm hW, r3.warm hW, r4.warm hW, r5.warm hW, r6.warm hW⟩
theorem swd.call {dK dV : Nat → Nat} {A0 : Nat → Prop} {U : State} {g : JFrame} {mk : MethodId} {a : Array Value} {H : Heap} (h : swd dK dV A0 U H) : swd dK dV A0 (U.calling g mk a) H := by
  obtain ⟨h1, h2, h3, r0, r1, r2, r3, r4, r5, r6⟩ := h
  have al := Vm.Alike.refl U.vm
  exact ⟨vk_S.moved (u := U) (U := U.calling g mk a) al h1, va_Z.moved (u := U) (U := U.calling g mk a) al h2, va_Zq.moved (u := U) (U := U.calling g mk a) al h3, r0.same rfl, r1.same rfl, r2.same rfl, r3.same rfl, r4.same rfl, r5.same rfl, r6.same rfl⟩
theorem swd.kept {dK dV : Nat → Nat} {A0 : Nat → Prop} {U : State} {H H1 : Heap} (h : swd dK dV A0 U H) (hq : ∀ a : Nat, a < H.size → ¬ A0 a → H1[a]? = H[a]?) : swd dK dV A0 U H1 := by
  obtain ⟨h1, h2, h3, hr⟩ := h
  exact ⟨h1.kept hq, h2.kept hq, h3.kept hq, hr⟩
theorem sw_preS {dK dV : Nat → Nat} {A0 : Nat → Prop} {s : State} {H : Heap} {As : List Value} (h : swd dK dV A0 s H) : PreS s H (va_Pc As (fun U => swd dK dV A0 U U.heap)) As :=
  ⟨fun a U g mk q => ⟨q.1, q.2.call⟩, fun U hU hW => ⟨rfl, by show swd dK dV A0 U U.heap; rw [hU]; exact h.warm hW⟩⟩
theorem sw_preV {dK dV : Nat → Nat} {A0 : Nat → Prop} {s : State} {H : Heap} {As : List Value} (h : swd dK dV A0 s H) {i : Nat} (hi : i < 7) : PreV s H RJ0 (dK i) (va_Pc (.ref (dK i) :: As) (fun U => swd dK dV A0 U U.heap)) As :=
  ⟨fun a U g mk q => ⟨q.1, q.2.call⟩, by obtain ⟨cell, h1, h2, h3, -⟩ := (h.1.1 i hi).1; exact ⟨cell, h1, h2, h3⟩, fun U hU hW => ⟨rfl, by show swd dK dV A0 U U.heap; rw [hU]; exact h.warm hW⟩⟩
theorem gT {Ts : List Cond} (hT : ∀ w ∈ bw, w ∈ Ts) {own : String} {idx n : Nat} {y : MethodName} {c : ByteArray} {r : Option FieldType} (h1 : Cond.methodLink own idx y ∈ bw) (h2 : Cond.static y ∈ bw) (h4 : Cond.initialized y.cls ∈ bw) (h5 : Cond.code y c n r ∈ bw) : GoodIn Ts (va_wsS own idx y (Cond.code y c n r :: bw)) := by
  intro w h
  unfold va_wsS at h
  rcases List.mem_append.mp h with h | h
  · have hw : w ∈ bw := by
      rcases List.mem_cons.mp h with rfl | h
      · exact h1
      rcases List.mem_cons.mp h with rfl | h
      · exact h2
      rcases List.mem_cons.mp h with rfl | h
      · exact h4
      cases h
    exact ⟨hT w hw, bw_good hw⟩
  · exact gC hT h5 w h
theorem chr_n {n : Nat} (h : n < 256) : ((nI n &&& nI 255).toUInt32 % 65536).toInt32 = nI n := by
  rw [nI_mask n 8 (P := 256) (by decide) (by decide), Nat.mod_eq_of_lt h, pk_char, pk_tn (by omega), Nat.mod_eq_of_lt (by omega)]
theorem lm_preW {s : State} {H : Heap} {dC : Nat → ClassId} {dI : Nat → Nat → Nat} {cA : ClassId} {a0 a1 a2 : Nat} {u : lmU} {A : Nat → Prop} {dK dV : Nat → Nat} {A0 : Nat → Prop} {As : List Value} (hK : va_K (dC, dI) vwCl [(cA, .long)] s) (hP : va_P (dC, dI) vwCl (lmW cA a0 a1 a2 u) H) (hD : va_D A (lmW cA a0 a1 a2 u)) (hw : swd dK dV A0 s H) : PreV s H RX0 a0 (va_Pc (.ref a0 :: As) (fun U => lmP dC dI cA a0 a1 a2 H.size u U ∧ swd dK dV A0 U U.heap)) As :=
  ⟨fun a U g mk q => by obtain ⟨q0, ⟨q1, qP, qK, qD⟩, qw⟩ := q; exact ⟨q0, ⟨q1, qP, va_K.moved (u := U) (U := U.calling g mk a) (Vm.Alike.refl U.vm) qK, qD⟩, qw.call⟩, va_recv hK hP (ci := 0) (q0 := 0) rfl rfl, fun U hU hW => ⟨rfl, ⟨by rw [hU], by rw [hU]; exact hP, va_K.moved hW.alike hK, hD.weaken (fun _ _ _ _ => trivial)⟩, by rw [hU]; exact hw.warm hW⟩⟩
set_option maxHeartbeats 4000000 in
set_option maxRecDepth 100000 in
theorem cj_J0_coder (l : Launch) (dK dV : Nat → Nat) (A0 : Nat → Prop) (i : Nat) (hi : i < 7) : Met l yJ0_coder wJ0_coder ({ frames := 0, cells := 0, slots := 0, locals := 0 }) (va_Pc [.ref (dK i)] (fun U => swd dK dV A0 U U.heap)) (vp_Si (fun r => r = 0)) 0 0 (fun _ => False) := by
  refine Met.ofW (cc := cJ0_coder) (maxL := 1) (ret := (some .byte)) (by decide) rfl ?_
  intro p e s m args below meth c s₁ B hml hv
  obtain ⟨rfl, hw⟩ := hv
  have hx := B.exec
  have hb := B.bytes
  have hr := B.returns
  have hts : ∀ w ∈ bw, w.before _ s = true := fun w h => atoms_spec (ws := wJ0_coder) B.pre w (bc w h)
  have hown : s.vm.findClass RJ0 = some m.cls := findClass_of_methodNamed B.named
  have hlocks := B.notSynchronized
  have hl := lv_entry ([.ref (dK i)]) (n := 1) (Nat.le_of_ble_eq_true rfl)
  rw [lg_entry_eq]
  generalize (lg_sl ([.ref (dK i)]) ++ List.replicate (1 - (lg_sl ([.ref (dK i)])).length) Slot.unset).toArray = ls at hl ⊢
  have hl : lv_has ls 1 [(0, .ref (dK i))] := hl
  refine va_gets (A := A0) hx hb hw.2.1 va_S.rf hown (hts _ fl_J0_38) (fun _ h9 => h9) dJ0_coder_0 ?_
  refine lv_if_eq (tgt := 13) hx hb dJ0_coder_3 (by decide) (fun c_1 => absurd c_1 (by decide)) (fun c_1 => ?_)
  refine lv_aload_n hx hb dJ0_coder_6 rfl (lv_at hl 0 rfl) ?_
  refine vk_getf (A := A0) hx hb (hw.1.1 i hi).2.1 va_S.rf hown (hts _ fl_J0_15) (fun _ h9 => h9) dJ0_coder_7 ?_
  refine lv_goto (tgt := 14) hx hb dJ0_coder_10 (by decide) ?_
  exact W.zret (v := 0) hx hb hr rfl (fun t ht hW => ⟨_, rfl, rfl, ht⟩) (fun q h => by cases h) dJ0_coder_14
set_option maxHeartbeats 4000000 in
set_option maxRecDepth 100000 in
theorem cj_J0_isLatin1 (l : Launch) (dK dV : Nat → Nat) (A0 : Nat → Prop) (i : Nat) (hi : i < 7) : Met l yJ0_isLatin1 wJ0_isLatin1 ({ frames := 0, cells := 0, slots := 0, locals := 0 }) (va_Pc [.ref (dK i)] (fun U => swd dK dV A0 U U.heap)) (vp_Si (fun r => r = 1)) 0 0 (fun _ => False) := by
  refine Met.ofW (cc := cJ0_isLatin1) (maxL := 1) (ret := (some .boolean)) (by decide) rfl ?_
  intro p e s m args below meth c s₁ B hml hv
  obtain ⟨rfl, hw⟩ := hv
  have hx := B.exec
  have hb := B.bytes
  have hr := B.returns
  have hts : ∀ w ∈ bw, w.before _ s = true := fun w h => atoms_spec (ws := wJ0_isLatin1) B.pre w (bc w h)
  have hown : s.vm.findClass RJ0 = some m.cls := findClass_of_methodNamed B.named
  have hlocks := B.notSynchronized
  have hl := lv_entry ([.ref (dK i)]) (n := 1) (Nat.le_of_ble_eq_true rfl)
  rw [lg_entry_eq]
  generalize (lg_sl ([.ref (dK i)]) ++ List.replicate (1 - (lg_sl ([.ref (dK i)])).length) Slot.unset).toArray = ls at hl ⊢
  have hl : lv_has ls 1 [(0, .ref (dK i))] := hl
  refine va_gets (A := A0) hx hb hw.2.1 va_S.rf hown (hts _ fl_J0_38) (fun _ h9 => h9) dJ0_isLatin1_0 ?_
  refine lv_if_eq (tgt := 17) hx hb dJ0_isLatin1_3 (by decide) (fun c_1 => absurd c_1 (by decide)) (fun c_1 => ?_)
  refine lv_aload_n hx hb dJ0_isLatin1_6 rfl (lv_at hl 0 rfl) ?_
  refine vk_getf (A := A0) hx hb (hw.1.1 i hi).2.1 va_S.rf hown (hts _ fl_J0_15) (fun _ h9 => h9) dJ0_isLatin1_7 ?_
  refine lv_if_ne (tgt := 17) hx hb dJ0_isLatin1_10 (by decide) (fun c_2 => absurd rfl c_2) (fun c_2 => ?_)
  refine lv_iconst (v := 1) hx hb dJ0_isLatin1_13 (by decide) ?_
  refine lv_goto (tgt := 18) hx hb dJ0_isLatin1_14 (by decide) ?_
  exact W.zret (v := 1) hx hb hr rfl (fun t ht hW => ⟨_, rfl, rfl, ht⟩) (fun q h => by cases h) dJ0_isLatin1_18
set_option maxHeartbeats 4000000 in
set_option maxRecDepth 100000 in
theorem cj_J0_length (l : Launch) (dK dV : Nat → Nat) (A0 : Nat → Prop) (i : Nat) (hi : i < 7) : Met l yJ0_length wJ0_length ({ frames := 1, cells := 0, slots := 0, locals := 20 }) (va_Pc [.ref (dK i)] (fun U => swd dK dV A0 U U.heap)) (vp_Si (fun r => r = nI (lS.getD i 0))) 0 0 (fun _ => False) := by
  refine Met.ofW (cc := cJ0_length) (maxL := 1) (ret := (some .int)) (by decide) rfl ?_
  intro p e s m args below meth c s₁ B hml hv
  obtain ⟨rfl, hw⟩ := hv
  have hx := B.exec
  have hb := B.bytes
  have hr := B.returns
  have hts : ∀ w ∈ bw, w.before _ s = true := fun w h => atoms_spec (ws := wJ0_length) B.pre w (bc w h)
  have hown : s.vm.findClass RJ0 = some m.cls := findClass_of_methodNamed B.named
  have hlocks := B.notSynchronized
  have hl := lv_entry ([.ref (dK i)]) (n := 1) (Nat.le_of_ble_eq_true rfl)
  rw [lg_entry_eq]
  generalize (lg_sl ([.ref (dK i)]) ++ List.replicate (1 - (lg_sl ([.ref (dK i)])).length) Slot.unset).toArray = ls at hl ⊢
  have hl : lv_has ls 1 [(0, .ref (dK i))] := hl
  have hlb := lS_b i hi
  refine lv_aload_n hx hb dJ0_length_0 rfl (lv_at hl 0 rfl) ?_
  refine vk_getf (A := A0) hx hb (hw.1.1 i hi).2.2.1 va_S.rf hown (hts _ fl_J0_9) (fun _ h9 => h9) dJ0_length_1 ?_
  refine va_tlen (A := A0) hx hb (hw.1.1 i hi).2.2.2 va_S.rf (v := nI (lS.getD i 0)) rfl dJ0_length_4 ?_
  refine lv_aload_n hx hb dJ0_length_5 rfl (lv_at hl 0 rfl) ?_
  refine vp_callSi (va_Run.run (va_runV (As := []) (rest := [.int (nI (lS.getD i 0))]) ⟨hx, hb, hml, hown, hts⟩ (cj_J0_coder l dK dV A0 i hi) (cwV 0 hts (gV (fun _ h => h) ml_J0_335 im_J0_coder se_J0_coder ini_J0 co_J0_coder) rfl rfl rfl pd_J0_coder ⟨Nat.le_of_ble_eq_true rfl, Nat.le_of_ble_eq_true rfl⟩) (sw_preV hw hi) rfl rfl hl.1 rfl (lv_room (Nat.le_of_ble_eq_true rfl)) dJ0_length_6 ⟨Nat.zero_le _, Nat.zero_le _⟩)) (fun r_1 (e_1 : r_1 = 0) => ?_)
  subst e_1
  refine lv_ishr hx hb dJ0_length_9 ?_
  exact W.iret (v := nI (lS.getD i 0) >>> ((0 : Int32) &&& 31)) hx hb hr (fun t ht hW => ⟨_, rfl, sc_shr0 (by omega), ht⟩) (fun q h => by cases h) dJ0_length_10
set_option maxHeartbeats 4000000 in
set_option maxRecDepth 100000 in
theorem cj_J3_checkIndexN (l : Launch) (dK dV : Nat → Nat) (A0 : Nat → Prop) (j n : Nat) (hj : j < n) (hn : n < 2 ^ 31) : Met l yJ3_checkIndex wJ3_checkIndex ({ frames := 0, cells := 0, slots := 0, locals := 0 }) (va_Pc [.int (nI j), .int (nI n), .null] (fun _ => True)) (vp_Si (fun r => r = nI j)) 0 0 (fun _ => False) := by
  refine Met.ofW (cc := cJ3_checkIndex) (maxL := 3) (ret := (some .int)) (by decide) rfl ?_
  intro p e s m args below meth c s₁ B hml hv
  obtain ⟨rfl, hw⟩ := hv
  have hx := B.exec
  have hb := B.bytes
  have hr := B.returns
  have hts : ∀ w ∈ bw, w.before _ s = true := fun w h => atoms_spec (ws := wJ3_checkIndex) B.pre w (bc w h)
  have hown : s.vm.findClass RJ3 = some m.cls := findClass_of_methodNamed B.named
  have hlocks := B.notSynchronized
  have hl := lv_entry ([.int (nI j), .int (nI n), .null]) (n := 3) (Nat.le_of_ble_eq_true rfl)
  rw [lg_entry_eq]
  generalize (lg_sl ([.int (nI j), .int (nI n), .null]) ++ List.replicate (3 - (lg_sl ([.int (nI j), .int (nI n), .null])).length) Slot.unset).toArray = ls at hl ⊢
  have hl : lv_has ls 3 [(0, .int (nI j)), (1, .int (nI n)), (2, .null)] := hl
  refine lv_iload_n hx hb dJ3_checkIndex_0 rfl (lv_at hl 0 rfl) ?_
  refine lv_if_lt (tgt := 9) hx hb dJ3_checkIndex_1 (by decide) (fun c_1 => absurd c_1 (nI_pos (by omega))) (fun c_1 => ?_)
  refine lv_iload_n hx hb dJ3_checkIndex_4 rfl (lv_at hl 0 rfl) ?_
  refine lv_iload_n hx hb dJ3_checkIndex_5 rfl (lv_at hl 1 rfl) ?_
  refine lv_icmp_lt (tgt := 16) hx hb dJ3_checkIndex_6 (by decide) (fun c_2 => ?_) (fun c_2 => absurd (nI_lt hj hn) c_2)
  refine lv_iload_n hx hb dJ3_checkIndex_16 rfl (lv_at hl 0 rfl) ?_
  exact W.iret (v := nI j) hx hb hr (fun t ht hW => ⟨_, rfl, rfl, ht⟩) (fun q h => by cases h) dJ3_checkIndex_17
set_option maxHeartbeats 4000000 in
set_option maxRecDepth 100000 in
theorem cj_J3_checkIndexR (l : Launch) (dK dV : Nat → Nat) (A0 : Nat → Prop) (j n : Nat) (t0 : Nat) (hj : j < n) (hn : n < 2 ^ 31) : Met l yJ3_checkIndex wJ3_checkIndex ({ frames := 0, cells := 0, slots := 0, locals := 0 }) (va_Pc [.int (nI j), .int (nI n), .ref t0] (fun _ => True)) (vp_Si (fun r => r = nI j)) 0 0 (fun _ => False) := by
  refine Met.ofW (cc := cJ3_checkIndex) (maxL := 3) (ret := (some .int)) (by decide) rfl ?_
  intro p e s m args below meth c s₁ B hml hv
  obtain ⟨rfl, hw⟩ := hv
  have hx := B.exec
  have hb := B.bytes
  have hr := B.returns
  have hts : ∀ w ∈ bw, w.before _ s = true := fun w h => atoms_spec (ws := wJ3_checkIndex) B.pre w (bc w h)
  have hown : s.vm.findClass RJ3 = some m.cls := findClass_of_methodNamed B.named
  have hlocks := B.notSynchronized
  have hl := lv_entry ([.int (nI j), .int (nI n), .ref t0]) (n := 3) (Nat.le_of_ble_eq_true rfl)
  rw [lg_entry_eq]
  generalize (lg_sl ([.int (nI j), .int (nI n), .ref t0]) ++ List.replicate (3 - (lg_sl ([.int (nI j), .int (nI n), .ref t0])).length) Slot.unset).toArray = ls at hl ⊢
  have hl : lv_has ls 3 [(0, .int (nI j)), (1, .int (nI n)), (2, .ref t0)] := hl
  refine lv_iload_n hx hb dJ3_checkIndex_0 rfl (lv_at hl 0 rfl) ?_
  refine lv_if_lt (tgt := 9) hx hb dJ3_checkIndex_1 (by decide) (fun c_1 => absurd c_1 (nI_pos (by omega))) (fun c_1 => ?_)
  refine lv_iload_n hx hb dJ3_checkIndex_4 rfl (lv_at hl 0 rfl) ?_
  refine lv_iload_n hx hb dJ3_checkIndex_5 rfl (lv_at hl 1 rfl) ?_
  refine lv_icmp_lt (tgt := 16) hx hb dJ3_checkIndex_6 (by decide) (fun c_2 => ?_) (fun c_2 => absurd (nI_lt hj hn) c_2)
  refine lv_iload_n hx hb dJ3_checkIndex_16 rfl (lv_at hl 0 rfl) ?_
  exact W.iret (v := nI j) hx hb hr (fun t ht hW => ⟨_, rfl, rfl, ht⟩) (fun q h => by cases h) dJ3_checkIndex_17
set_option maxHeartbeats 4000000 in
set_option maxRecDepth 100000 in
theorem cj_J0_checkIndex (l : Launch) (dK dV : Nat → Nat) (A0 : Nat → Prop) (j n : Nat) (hj : j < n) (hn : n < 2 ^ 31) : Met l yJ0_checkIndex wJ0_checkIndex ({ frames := 1, cells := 0, slots := 0, locals := 22 }) (va_Pc [.int (nI j), .int (nI n)] (fun U => swd dK dV A0 U U.heap)) (va_Sv (fun _ => True)) 0 0 (fun _ => False) := by
  refine Met.ofW (cc := cJ0_checkIndex) (maxL := 2) (ret := none) (by decide) rfl ?_
  intro p e s m args below meth c s₁ B hml hv
  obtain ⟨rfl, hw⟩ := hv
  have hx := B.exec
  have hb := B.bytes
  have hr := B.returns
  have hts : ∀ w ∈ bw, w.before _ s = true := fun w h => atoms_spec (ws := wJ0_checkIndex) B.pre w (bc w h)
  have hown : s.vm.findClass RJ0 = some m.cls := findClass_of_methodNamed B.named
  have hlocks := B.notSynchronized
  have hl := lv_entry ([.int (nI j), .int (nI n)]) (n := 2) (Nat.le_of_ble_eq_true rfl)
  rw [lg_entry_eq]
  generalize (lg_sl ([.int (nI j), .int (nI n)]) ++ List.replicate (2 - (lg_sl ([.int (nI j), .int (nI n)])).length) Slot.unset).toArray = ls at hl ⊢
  have hl : lv_has ls 2 [(0, .int (nI j)), (1, .int (nI n))] := hl
  refine lv_iload_n hx hb dJ0_checkIndex_0 rfl (lv_at hl 0 rfl) ?_
  refine lv_iload_n hx hb dJ0_checkIndex_1 rfl (lv_at hl 1 rfl) ?_
  rcases hw.2.2.1 with hZ | ⟨t0, hZ⟩
  · refine va_gets (A := A0) hx hb hZ va_S.rf hown (hts _ fl_J0_1053) (fun _ h9 => h9) dJ0_checkIndex_2 ?_
    refine vp_callSi (va_Run.run (va_runS (As := [.int (nI j), .int (nI n), .null]) (rest := []) ⟨hx, hb, hml, hown, hts⟩ (cj_J3_checkIndexN l dK dV A0 j n hj hn) (va_cwS 3 hts (gT (fun _ h => h) ml_J0_1059 sm_J3_checkIndex ini_J3 co_J3_checkIndex) rfl rfl rfl pd_J3_checkIndex.2 ⟨Nat.le_of_ble_eq_true rfl, Nat.le_of_ble_eq_true rfl⟩) st_pre rfl rfl hl.1 rfl (lv_room (Nat.le_of_ble_eq_true rfl)) dJ0_checkIndex_5 ⟨Nat.zero_le _, Nat.zero_le _⟩)) (fun r_1 (e_1 : r_1 = nI j) => ?_)
    refine lv_pop hx hb dJ0_checkIndex_8 rfl ?_
    exact W.vret hx hb hr (fun t ht hW => ⟨rfl, trivial, ht⟩) (fun q h => by cases h) dJ0_checkIndex_9
  · refine va_gets (A := A0) hx hb hZ va_S.rf hown (hts _ fl_J0_1053) (fun _ h9 => h9) dJ0_checkIndex_2 ?_
    refine vp_callSi (va_Run.run (va_runS (As := [.int (nI j), .int (nI n), .ref t0]) (rest := []) ⟨hx, hb, hml, hown, hts⟩ (cj_J3_checkIndexR l dK dV A0 j n t0 hj hn) (va_cwS 3 hts (gT (fun _ h => h) ml_J0_1059 sm_J3_checkIndex ini_J3 co_J3_checkIndex) rfl rfl rfl pd_J3_checkIndex.2 ⟨Nat.le_of_ble_eq_true rfl, Nat.le_of_ble_eq_true rfl⟩) st_pre rfl rfl hl.1 rfl (lv_room (Nat.le_of_ble_eq_true rfl)) dJ0_checkIndex_5 ⟨Nat.zero_le _, Nat.zero_le _⟩)) (fun r_1 (e_1 : r_1 = nI j) => ?_)
    refine lv_pop hx hb dJ0_checkIndex_8 rfl ?_
    exact W.vret hx hb hr (fun t ht hW => ⟨rfl, trivial, ht⟩) (fun q h => by cases h) dJ0_checkIndex_9

set_option maxHeartbeats 4000000 in
set_option maxRecDepth 100000 in
theorem cj_J1_charAt (l : Launch) (dK dV : Nat → Nat) (A0 : Nat → Prop) (i j : Nat) (hi : i < 7) (hj : j < lS.getD i 0) : Met l yJ1_charAt wJ1_charAt ({ frames := 2, cells := 0, slots := 0, locals := 43 }) (va_Pc [.ref (dV i), .int (nI j)] (fun U => swd dK dV A0 U U.heap)) (vp_Si (fun r => r = nI (cS i j))) 0 0 (fun _ => False) := by
  refine Met.ofW (cc := cJ1_charAt) (maxL := 2) (ret := (some .char)) (by decide) rfl ?_
  intro p e s m args below meth c s₁ B hml hv
  obtain ⟨rfl, hw⟩ := hv
  have hx := B.exec
  have hb := B.bytes
  have hr := B.returns
  have hts : ∀ w ∈ bw, w.before _ s = true := fun w h => atoms_spec (ws := wJ1_charAt) B.pre w (bc w h)
  have hown : s.vm.findClass RJ1 = some m.cls := findClass_of_methodNamed B.named
  have hlocks := B.notSynchronized
  have hl := lv_entry ([.ref (dV i), .int (nI j)]) (n := 2) (Nat.le_of_ble_eq_true rfl)
  rw [lg_entry_eq]
  generalize (lg_sl ([.ref (dV i), .int (nI j)]) ++ List.replicate (2 - (lg_sl ([.ref (dV i), .int (nI j)])).length) Slot.unset).toArray = ls at hl ⊢
  have hl : lv_has ls 2 [(0, .ref (dV i)), (1, .int (nI j))] := hl
  have hlb := lS_b i hi
  obtain ⟨hc1, hc2⟩ := bS_n i hi j hj
  refine lv_iload_n hx hb dJ1_charAt_0 rfl (lv_at hl 1 rfl) ?_
  refine lv_aload_n hx hb dJ1_charAt_1 rfl (lv_at hl 0 rfl) ?_
  refine va_tlen (A := A0) hx hb (hw.1.1 i hi).2.2.2 va_S.rf (v := nI (lS.getD i 0)) rfl dJ1_charAt_2 ?_
  refine va_csv (va_Run.run (va_runS (As := [.int (nI j), .int (nI (lS.getD i 0))]) (rest := []) ⟨hx, hb, hml, hown, hts⟩ (cj_J0_checkIndex l dK dV A0 j (lS.getD i 0) hj (by omega)) (va_cwS 2 hts (gT (fun _ h => h) ml_J1_9 sm_J0_checkIndex ini_J0 co_J0_checkIndex) rfl rfl rfl pd_J0_checkIndex.2 ⟨Nat.le_of_ble_eq_true rfl, Nat.le_of_ble_eq_true rfl⟩) (sw_preS hw) rfl rfl hl.1 rfl (lv_room (Nat.le_of_ble_eq_true rfl)) dJ1_charAt_3 ⟨Nat.zero_le _, Nat.zero_le _⟩)) (fun _ => ?_)
  refine lv_aload_n hx hb dJ1_charAt_6 rfl (lv_at hl 0 rfl) ?_
  refine lv_iload_n hx hb dJ1_charAt_7 rfl (lv_at hl 1 rfl) ?_
  refine va_tb (A := A0) hx hb (hw.1.1 i hi).2.2.2 va_S.rf (vp_in_nI hj (by omega)) (v := .int (nI (cS i j))) (by rw [nI_clamp (by omega), hc1]) dJ1_charAt_8 ?_
  refine lv_sipush (v := nI 255) hx hb dJ1_charAt_9 (by decide) ?_
  refine lv_iand hx hb dJ1_charAt_12 ?_
  refine lv_i2c (v := nI (cS i j)) hx hb dJ1_charAt_13 (chr_n (by omega)) ?_
  exact W.zret (v := nI (cS i j)) hx hb hr (pk_charN (by omega)).1 (fun t ht hW => ⟨_, rfl, rfl, ht⟩) (fun q h => by cases h) dJ1_charAt_14
set_option maxHeartbeats 4000000 in
set_option maxRecDepth 100000 in
theorem cj_J0_charAt (l : Launch) (dK dV : Nat → Nat) (A0 : Nat → Prop) (i j : Nat) (hi : i < 7) (hj : j < lS.getD i 0) : Met l yJ0_charAt wJ0_charAt ({ frames := 3, cells := 0, slots := 0, locals := 64 }) (va_Pc [.ref (dK i), .int (nI j)] (fun U => swd dK dV A0 U U.heap)) (vp_Si (fun r => r = nI (cS i j))) 0 0 (fun _ => False) := by
  refine Met.ofW (cc := cJ0_charAt) (maxL := 2) (ret := (some .char)) (by decide) rfl ?_
  intro p e s m args below meth c s₁ B hml hv
  obtain ⟨rfl, hw⟩ := hv
  have hx := B.exec
  have hb := B.bytes
  have hr := B.returns
  have hts : ∀ w ∈ bw, w.before _ s = true := fun w h => atoms_spec (ws := wJ0_charAt) B.pre w (bc w h)
  have hown : s.vm.findClass RJ0 = some m.cls := findClass_of_methodNamed B.named
  have hlocks := B.notSynchronized
  have hl := lv_entry ([.ref (dK i), .int (nI j)]) (n := 2) (Nat.le_of_ble_eq_true rfl)
  rw [lg_entry_eq]
  generalize (lg_sl ([.ref (dK i), .int (nI j)]) ++ List.replicate (2 - (lg_sl ([.ref (dK i), .int (nI j)])).length) Slot.unset).toArray = ls at hl ⊢
  have hl : lv_has ls 2 [(0, .ref (dK i)), (1, .int (nI j))] := hl
  have hlb := lS_b i hi
  obtain ⟨hc1, hc2⟩ := bS_n i hi j hj
  refine lv_aload_n hx hb dJ0_charAt_0 rfl (lv_at hl 0 rfl) ?_
  refine vp_callSi (va_Run.run (va_runV (As := []) (rest := []) ⟨hx, hb, hml, hown, hts⟩ (cj_J0_isLatin1 l dK dV A0 i hi) (cwV 0 hts (gV (fun _ h => h) ml_J0_492 im_J0_isLatin1 se_J0_isLatin1 ini_J0 co_J0_isLatin1) rfl rfl rfl pd_J0_isLatin1 ⟨Nat.le_of_ble_eq_true rfl, Nat.le_of_ble_eq_true rfl⟩) (sw_preV hw hi) rfl rfl hl.1 rfl (lv_room (Nat.le_of_ble_eq_true rfl)) dJ0_charAt_1 ⟨Nat.zero_le _, Nat.zero_le _⟩)) (fun r_1 (e_1 : r_1 = 1) => ?_)
  subst e_1
  refine lv_if_eq (tgt := 16) hx hb dJ0_charAt_4 (by decide) (fun c_1 => absurd c_1 (by decide)) (fun c_1 => ?_)
  refine lv_aload_n hx hb dJ0_charAt_7 rfl (lv_at hl 0 rfl) ?_
  refine vk_getf (A := A0) hx hb (hw.1.1 i hi).2.2.1 va_S.rf hown (hts _ fl_J0_9) (fun _ h9 => h9) dJ0_charAt_8 ?_
  refine lv_iload_n hx hb dJ0_charAt_11 rfl (lv_at hl 1 rfl) ?_
  refine vp_callSi (va_Run.run (va_runS (As := [.ref (dV i), .int (nI j)]) (rest := []) ⟨hx, hb, hml, hown, hts⟩ (cj_J1_charAt l dK dV A0 i j hi hj) (va_cwS 2 hts (gT (fun _ h => h) ml_J0_495 sm_J1_charAt ini_J1 co_J1_charAt) rfl rfl rfl pd_J1_charAt.2 ⟨Nat.le_of_ble_eq_true rfl, Nat.le_of_ble_eq_true rfl⟩) (sw_preS hw) rfl rfl hl.1 rfl (lv_room (Nat.le_of_ble_eq_true rfl)) dJ0_charAt_12 ⟨Nat.zero_le _, Nat.zero_le _⟩)) (fun r_2 (e_2 : r_2 = nI (cS i j)) => ?_)
  subst e_2
  exact W.zret (v := nI (cS i j)) hx hb hr (pk_charN (by omega)).1 (fun t ht hW => ⟨_, rfl, rfl, ht⟩) (fun q h => by cases h) dJ0_charAt_15
end
section
/-- hasSign from place n on, with k turns at most: the constant i in steps of w -/
def hsG (i w x y z : Nat) : Nat → Nat → Bool
  | 0, _ => false
  | k + 1, n => if n + w ≤ lS.getD i 0 then (if cS i n = x ∧ (w < 2 ∨ cS i (n + 1) = y) ∧ (w < 3 ∨ cS i (n + 2) = z) then true else hsG i w x y z k (n + w)) else false
set_option maxHeartbeats 4000000 in
set_option maxRecDepth 100000 in
theorem k_hasSign_3 {p : Program} {l : Launch} {e : Env} {s : State} {m : MethodId} {args : Array Value} {below : List Frame} {meth : Method} {c : Code} (hx : p.tables.exec = Jvm.exec) (hb : c.code = cX0_hasSign) (hr : meth.sig.returnType = (some .boolean)) (hml : c.maxLocals = 6) (hown : s.vm.findClass RX0 = some m.cls) (hts : ∀ w ∈ bw, w.before args s = true) (hlocks : meth.locks = false) {dK dV : Nat → Nat} {A0 : Nat → Prop} (hw : swd dK dV A0 s s.heap) (i w x y z : Nat) (hi : i < 7) (hw1 : 0 < w) (hw3 : w ≤ 3) (P : Int32 → Prop) : ∀ (k : Nat) (n : Nat), lS.getD i 0 + 1 - n < k → n < 2 ^ 20 → P (b2i (hsG i w x y z k n)) → ∀ ls, lv_has ls 6 [(0, .ref (dK i)), (1, .int (nI w)), (2, .int (bI x)), (3, .int (bI y)), (4, .int (bI z)), (5, .int (nI n))] → W p l e (headSpec wX0_hasSign ({ frames := 4, cells := 0, slots := 0, locals := 85 })).room s m args below meth c s.heap [] 0 0 (MQ below (vp_Si P) args s 0 0 (fun _ => False)) (F0 m 3 ls []) := by
  intro k
  induction k with
  | zero => intro n hk; exact absurd hk (by omega)
  | succ k ih =>
    intro n hk hn hQ ls hl
    have hlb := lS_b i hi
    refine lv_iload hx hb dX0_hasSign_3 (lv_at hl 5 rfl) ?_
    refine lv_iload_n hx hb dX0_hasSign_5 rfl (lv_at hl 1 rfl) ?_
    refine lv_iadd hx hb dX0_hasSign_6 ?_
    refine lv_topi (fun x_1 e_2 => ?_)
    obtain rfl : x_1 = nI (n + w) := e_2.trans (nI_add n w)
    refine lv_aload_n hx hb dX0_hasSign_7 rfl (lv_at hl 0 rfl) ?_
    refine vp_callSi (va_Run.run (va_runV (As := []) (rest := [.int (nI (n + w))]) ⟨hx, hb, hml, hown, hts⟩ (cj_J0_length l dK dV A0 i hi) (cwV 0 hts (gV (fun _ h => h) ml_X0_175 im_J0_length se_J0_length ini_J0 co_J0_length) rfl rfl rfl pd_J0_length ⟨Nat.le_of_ble_eq_true rfl, Nat.le_of_ble_eq_true rfl⟩) (sw_preV hw hi) rfl rfl hl.1 rfl (lv_room (Nat.le_of_ble_eq_true rfl)) dX0_hasSign_8 ⟨Nat.zero_le _, Nat.zero_le _⟩)) (fun r_3 (e_4 : r_3 = nI (lS.getD i 0)) => ?_)
    subst e_4
    refine lv_icmp_gt (tgt := 70) hx hb dX0_hasSign_11 (by decide) (fun c_5 => ?_) (fun c_5 => ?_)
    · have c_5 := (nI_ltI (a := lS.getD i 0) (b := n + w) (by omega) (by omega)).mp c_5
      refine lv_iconst (v := nI 0) hx hb dX0_hasSign_70 (by decide) ?_
      exact W.zret (v := nI 0) hx hb hr rfl (fun t ht hW => ⟨_, rfl, (by rw [hsG, if_neg (by omega)] at hQ; exact hQ), ht⟩) (fun q h => by cases h) dX0_hasSign_71
    · have c_5 := mt (nI_ltI (a := lS.getD i 0) (b := n + w) (by omega) (by omega)).mpr c_5
      refine lv_aload_n hx hb dX0_hasSign_14 rfl (lv_at hl 0 rfl) ?_
      refine lv_iload hx hb dX0_hasSign_15 (lv_at hl 5 rfl) ?_
      refine vp_callSi (va_Run.run (va_runV (As := [.int (nI n)]) (rest := []) ⟨hx, hb, hml, hown, hts⟩ (cj_J0_charAt l dK dV A0 i n hi (by omega)) (cwV 1 hts (gV (fun _ h => h) ml_X0_179 im_J0_charAt se_J0_charAt ini_J0 co_J0_charAt) rfl rfl rfl pd_J0_charAt ⟨Nat.le_of_ble_eq_true rfl, Nat.le_of_ble_eq_true rfl⟩) (sw_preV hw hi) rfl rfl hl.1 rfl (lv_room (Nat.le_of_ble_eq_true rfl)) dX0_hasSign_17 ⟨Nat.zero_le _, Nat.zero_le _⟩)) (fun r_6 (e_7 : r_6 = nI (cS i n)) => ?_)
      subst e_7
      have := (bS_n i hi n (by omega)).2
      refine lv_iload_n hx hb dX0_hasSign_20 rfl (lv_at hl 2 rfl) ?_
      refine lv_icmp_ne (tgt := 61) hx hb dX0_hasSign_21 (by decide) (fun c_8 => ?_) (fun c_8 => ?_)
      · have c_8 := mt (bI_Neq (by omega)).mpr c_8
        refine lv_iload hx hb dX0_hasSign_61 (lv_at hl 5 rfl) ?_
        refine lv_iload_n hx hb dX0_hasSign_63 rfl (lv_at hl 1 rfl) ?_
        refine lv_iadd hx hb dX0_hasSign_64 ?_
        refine lv_topi (fun x_9 e_10 => ?_)
        obtain rfl : x_9 = nI (n + w) := e_10.trans (nI_add n w)
        refine lv_istore (lv' := [(5, .int (nI (n + w))), (0, .ref (dK i)), (1, .int (nI w)), (2, .int (bI x)), (3, .int (bI y)), (4, .int (bI z))]) hx hb dX0_hasSign_65 hl (by decide) rfl (fun ls hl => ?_)
        refine lv_goto (tgt := 3) hx hb dX0_hasSign_67 (by decide) ?_
        exact ih (n + w) (by omega) (by omega) (by rw [hsG, if_pos (by omega), if_neg (by omega)] at hQ; exact hQ) _ (lv_sub hl [1, 2, 3, 4, 5, 0] rfl)
      · have c_8 := (bI_Neq (by omega)).mp c_8
        refine lv_iload_n hx hb dX0_hasSign_24 rfl (lv_at hl 1 rfl) ?_
        refine lv_iconst (v := nI 2) hx hb dX0_hasSign_25 (by decide) ?_
        refine lv_icmp_lt (tgt := 41) hx hb dX0_hasSign_26 (by decide) (fun c_11 => ?_) (fun c_11 => ?_)
        · have c_11 := (nI_ltI (a := w) (b := 2) (by omega) (by omega)).mp c_11
          refine lv_iload_n hx hb dX0_hasSign_41 rfl (lv_at hl 1 rfl) ?_
          refine lv_iconst (v := nI 3) hx hb dX0_hasSign_42 (by decide) ?_
          refine lv_icmp_lt (tgt := 59) hx hb dX0_hasSign_43 (by decide) (fun c_12 => ?_) (fun c_12 => ?_)
          · have c_12 := (nI_ltI (a := w) (b := 3) (by omega) (by omega)).mp c_12
            refine lv_iconst (v := nI 1) hx hb dX0_hasSign_59 (by decide) ?_
            exact W.zret (v := nI 1) hx hb hr rfl (fun t ht hW => ⟨_, rfl, (by rw [hsG, if_pos (by omega), if_pos (by omega)] at hQ; exact hQ), ht⟩) (fun q h => by cases h) dX0_hasSign_60
          · have c_12 := mt (nI_ltI (a := w) (b := 3) (by omega) (by omega)).mpr c_12
            refine lv_aload_n hx hb dX0_hasSign_46 rfl (lv_at hl 0 rfl) ?_
            refine lv_iload hx hb dX0_hasSign_47 (lv_at hl 5 rfl) ?_
            refine lv_iconst (v := nI 2) hx hb dX0_hasSign_49 (by decide) ?_
            refine lv_iadd hx hb dX0_hasSign_50 ?_
            refine lv_topi (fun x_13 e_14 => ?_)
            obtain rfl : x_13 = nI (n + 2) := e_14.trans (nI_add n 2)
            refine vp_callSi (va_Run.run (va_runV (As := [.int (nI (n + 2))]) (rest := []) ⟨hx, hb, hml, hown, hts⟩ (cj_J0_charAt l dK dV A0 i (n + 2) hi (by omega)) (cwV 1 hts (gV (fun _ h => h) ml_X0_179 im_J0_charAt se_J0_charAt ini_J0 co_J0_charAt) rfl rfl rfl pd_J0_charAt ⟨Nat.le_of_ble_eq_true rfl, Nat.le_of_ble_eq_true rfl⟩) (sw_preV hw hi) rfl rfl hl.1 rfl (lv_room (Nat.le_of_ble_eq_true rfl)) dX0_hasSign_51 ⟨Nat.zero_le _, Nat.zero_le _⟩)) (fun r_15 (e_16 : r_15 = nI (cS i (n + 2))) => ?_)
            subst e_16
            have := (bS_n i hi (n + 2) (by omega)).2
            refine lv_iload hx hb dX0_hasSign_54 (lv_at hl 4 rfl) ?_
            refine lv_icmp_ne (tgt := 61) hx hb dX0_hasSign_56 (by decide) (fun c_17 => ?_) (fun c_17 => ?_)
            · have c_17 := mt (bI_Neq (by omega)).mpr c_17
              refine lv_iload hx hb dX0_hasSign_61 (lv_at hl 5 rfl) ?_
              refine lv_iload_n hx hb dX0_hasSign_63 rfl (lv_at hl 1 rfl) ?_
              refine lv_iadd hx hb dX0_hasSign_64 ?_
              refine lv_topi (fun x_18 e_19 => ?_)
              obtain rfl : x_18 = nI (n + w) := e_19.trans (nI_add n w)
              refine lv_istore (lv' := [(5, .int (nI (n + w))), (0, .ref (dK i)), (1, .int (nI w)), (2, .int (bI x)), (3, .int (bI y)), (4, .int (bI z))]) hx hb dX0_hasSign_65 hl (by decide) rfl (fun ls hl => ?_)
              refine lv_goto (tgt := 3) hx hb dX0_hasSign_67 (by decide) ?_
              exact ih (n + w) (by omega) (by omega) (by rw [hsG, if_pos (by omega), if_neg (by omega)] at hQ; exact hQ) _ (lv_sub hl [1, 2, 3, 4, 5, 0] rfl)
            · have c_17 := (bI_Neq (by omega)).mp c_17
              refine lv_iconst (v := nI 1) hx hb dX0_hasSign_59 (by decide) ?_
              exact W.zret (v := nI 1) hx hb hr rfl (fun t ht hW => ⟨_, rfl, (by rw [hsG, if_pos (by omega), if_pos (by omega)] at hQ; exact hQ), ht⟩) (fun q h => by cases h) dX0_hasSign_60
        · have c_11 := mt (nI_ltI (a := w) (b := 2) (by omega) (by omega)).mpr c_11
          refine lv_aload_n hx hb dX0_hasSign_29 rfl (lv_at hl 0 rfl) ?_
          refine lv_iload hx hb dX0_hasSign_30 (lv_at hl 5 rfl) ?_
          refine lv_iconst (v := nI 1) hx hb dX0_hasSign_32 (by decide) ?_
          refine lv_iadd hx hb dX0_hasSign_33 ?_
          refine lv_topi (fun x_20 e_21 => ?_)
          obtain rfl : x_20 = nI (n + 1) := e_21.trans (nI_add n 1)
          refine vp_callSi (va_Run.run (va_runV (As := [.int (nI (n + 1))]) (rest := []) ⟨hx, hb, hml, hown, hts⟩ (cj_J0_charAt l dK dV A0 i (n + 1) hi (by omega)) (cwV 1 hts (gV (fun _ h => h) ml_X0_179 im_J0_charAt se_J0_charAt ini_J0 co_J0_charAt) rfl rfl rfl pd_J0_charAt ⟨Nat.le_of_ble_eq_true rfl, Nat.le_of_ble_eq_true rfl⟩) (sw_preV hw hi) rfl rfl hl.1 rfl (lv_room (Nat.le_of_ble_eq_true rfl)) dX0_hasSign_34 ⟨Nat.zero_le _, Nat.zero_le _⟩)) (fun r_22 (e_23 : r_22 = nI (cS i (n + 1))) => ?_)
          subst e_23
          have := (bS_n i hi (n + 1) (by omega)).2
          refine lv_iload_n hx hb dX0_hasSign_37 rfl (lv_at hl 3 rfl) ?_
          refine lv_icmp_ne (tgt := 61) hx hb dX0_hasSign_38 (by decide) (fun c_24 => ?_) (fun c_24 => ?_)
          · have c_24 := mt (bI_Neq (by omega)).mpr c_24
            refine lv_iload hx hb dX0_hasSign_61 (lv_at hl 5 rfl) ?_
            refine lv_iload_n hx hb dX0_hasSign_63 rfl (lv_at hl 1 rfl) ?_
            refine lv_iadd hx hb dX0_hasSign_64 ?_
            refine lv_topi (fun x_25 e_26 => ?_)
            obtain rfl : x_25 = nI (n + w) := e_26.trans (nI_add n w)
            refine lv_istore (lv' := [(5, .int (nI (n + w))), (0, .ref (dK i)), (1, .int (nI w)), (2, .int (bI x)), (3, .int (bI y)), (4, .int (bI z))]) hx hb dX0_hasSign_65 hl (by decide) rfl (fun ls hl => ?_)
            refine lv_goto (tgt := 3) hx hb dX0_hasSign_67 (by decide) ?_
            exact ih (n + w) (by omega) (by omega) (by rw [hsG, if_pos (by omega), if_neg (by omega)] at hQ; exact hQ) _ (lv_sub hl [1, 2, 3, 4, 5, 0] rfl)
          · have c_24 := (bI_Neq (by omega)).mp c_24
            refine lv_iload_n hx hb dX0_hasSign_41 rfl (lv_at hl 1 rfl) ?_
            refine lv_iconst (v := nI 3) hx hb dX0_hasSign_42 (by decide) ?_
            refine lv_icmp_lt (tgt := 59) hx hb dX0_hasSign_43 (by decide) (fun c_27 => ?_) (fun c_27 => ?_)
            · have c_27 := (nI_ltI (a := w) (b := 3) (by omega) (by omega)).mp c_27
              refine lv_iconst (v := nI 1) hx hb dX0_hasSign_59 (by decide) ?_
              exact W.zret (v := nI 1) hx hb hr rfl (fun t ht hW => ⟨_, rfl, (by rw [hsG, if_pos (by omega), if_pos (by omega)] at hQ; exact hQ), ht⟩) (fun q h => by cases h) dX0_hasSign_60
            · have c_27 := mt (nI_ltI (a := w) (b := 3) (by omega) (by omega)).mpr c_27
              refine lv_aload_n hx hb dX0_hasSign_46 rfl (lv_at hl 0 rfl) ?_
              refine lv_iload hx hb dX0_hasSign_47 (lv_at hl 5 rfl) ?_
              refine lv_iconst (v := nI 2) hx hb dX0_hasSign_49 (by decide) ?_
              refine lv_iadd hx hb dX0_hasSign_50 ?_
              refine lv_topi (fun x_28 e_29 => ?_)
              obtain rfl : x_28 = nI (n + 2) := e_29.trans (nI_add n 2)
              refine vp_callSi (va_Run.run (va_runV (As := [.int (nI (n + 2))]) (rest := []) ⟨hx, hb, hml, hown, hts⟩ (cj_J0_charAt l dK dV A0 i (n + 2) hi (by omega)) (cwV 1 hts (gV (fun _ h => h) ml_X0_179 im_J0_charAt se_J0_charAt ini_J0 co_J0_charAt) rfl rfl rfl pd_J0_charAt ⟨Nat.le_of_ble_eq_true rfl, Nat.le_of_ble_eq_true rfl⟩) (sw_preV hw hi) rfl rfl hl.1 rfl (lv_room (Nat.le_of_ble_eq_true rfl)) dX0_hasSign_51 ⟨Nat.zero_le _, Nat.zero_le _⟩)) (fun r_30 (e_31 : r_30 = nI (cS i (n + 2))) => ?_)
              subst e_31
              have := (bS_n i hi (n + 2) (by omega)).2
              refine lv_iload hx hb dX0_hasSign_54 (lv_at hl 4 rfl) ?_
              refine lv_icmp_ne (tgt := 61) hx hb dX0_hasSign_56 (by decide) (fun c_32 => ?_) (fun c_32 => ?_)
              · have c_32 := mt (bI_Neq (by omega)).mpr c_32
                refine lv_iload hx hb dX0_hasSign_61 (lv_at hl 5 rfl) ?_
                refine lv_iload_n hx hb dX0_hasSign_63 rfl (lv_at hl 1 rfl) ?_
                refine lv_iadd hx hb dX0_hasSign_64 ?_
                refine lv_topi (fun x_33 e_34 => ?_)
                obtain rfl : x_33 = nI (n + w) := e_34.trans (nI_add n w)
                refine lv_istore (lv' := [(5, .int (nI (n + w))), (0, .ref (dK i)), (1, .int (nI w)), (2, .int (bI x)), (3, .int (bI y)), (4, .int (bI z))]) hx hb dX0_hasSign_65 hl (by decide) rfl (fun ls hl => ?_)
                refine lv_goto (tgt := 3) hx hb dX0_hasSign_67 (by decide) ?_
                exact ih (n + w) (by omega) (by omega) (by rw [hsG, if_pos (by omega), if_neg (by omega)] at hQ; exact hQ) _ (lv_sub hl [1, 2, 3, 4, 5, 0] rfl)
              · have c_32 := (bI_Neq (by omega)).mp c_32
                refine lv_iconst (v := nI 1) hx hb dX0_hasSign_59 (by decide) ?_
                exact W.zret (v := nI 1) hx hb hr rfl (fun t ht hW => ⟨_, rfl, (by rw [hsG, if_pos (by omega), if_pos (by omega)] at hQ; exact hQ), ht⟩) (fun q h => by cases h) dX0_hasSign_60
set_option maxHeartbeats 4000000 in
set_option maxRecDepth 100000 in
theorem c_hasSign (l : Launch) (dK dV : Nat → Nat) (A0 : Nat → Prop) (i : Nat) (w : Nat) (x : Nat) (y : Nat) (z : Nat) (hi : i < 7) (hw1 : 0 < w) (hw3 : w ≤ 3) : Met l yX0_hasSign wX0_hasSign ({ frames := 4, cells := 0, slots := 0, locals := 85 }) (va_Pc [.ref (dK i), .int (nI w), .int (bI x), .int (bI y), .int (bI z)] (fun U => swd dK dV A0 U U.heap)) (vp_Si (fun r => r = b2i (hsG i w x y z 65 0))) 0 0 (fun _ => False) := by
  refine Met.ofW (cc := cX0_hasSign) (maxL := 6) (ret := (some .boolean)) (by decide) rfl ?_
  intro p e s m args below meth c s₁ B hml hv
  obtain ⟨rfl, hw⟩ := hv
  have hx := B.exec
  have hb := B.bytes
  have hr := B.returns
  have hts : ∀ w ∈ bw, w.before _ s = true := fun w h => atoms_spec (ws := wX0_hasSign) B.pre w (bc w h)
  have hown : s.vm.findClass RX0 = some m.cls := findClass_of_methodNamed B.named
  have hlocks := B.notSynchronized
  have hl := lv_entry ([.ref (dK i), .int (nI w), .int (bI x), .int (bI y), .int (bI z)]) (n := 6) (Nat.le_of_ble_eq_true rfl)
  rw [lg_entry_eq]
  generalize (lg_sl ([.ref (dK i), .int (nI w), .int (bI x), .int (bI y), .int (bI z)]) ++ List.replicate (6 - (lg_sl ([.ref (dK i), .int (nI w), .int (bI x), .int (bI y), .int (bI z)])).length) Slot.unset).toArray = ls at hl ⊢
  have hl : lv_has ls 6 [(0, .ref (dK i)), (1, .int (nI w)), (2, .int (bI x)), (3, .int (bI y)), (4, .int (bI z))] := hl
  have hlb := lS_b i hi
  refine lv_iconst (v := nI 0) hx hb dX0_hasSign_0 (by decide) ?_
  refine lv_istore (lv' := [(5, .int (nI 0)), (0, .ref (dK i)), (1, .int (nI w)), (2, .int (bI x)), (3, .int (bI y)), (4, .int (bI z))]) hx hb dX0_hasSign_1 hl (by decide) rfl (fun ls hl => ?_)
  exact k_hasSign_3 hx hb hr hml hown hts hlocks hw i w x y z hi hw1 hw3 (fun r => r = b2i (hsG i w x y z 65 0)) 65 0 (by omega) (by decide) rfl _ (lv_sub hl [1, 2, 3, 4, 5, 0] rfl)
end
section
theorem hsG_y {i w x y z : Nat} (hi : i < 7) (hw : 2 ≤ w) : ∀ (k n : Nat), hsG i w x y z k n = true → y < 256 ∧ (3 ≤ w → z < 256) := by
  intro k
  induction k with
  | zero => intro n h; exact absurd h (by rw [hsG]; decide)
  | succ k ih =>
    intro n h
    rw [hsG] at h
    by_cases c : n + w ≤ lS.getD i 0
    · rw [if_pos c] at h
      by_cases d : cS i n = x ∧ (w < 2 ∨ cS i (n + 1) = y) ∧ (w < 3 ∨ cS i (n + 2) = z)
      · have h1 := (bS_n i hi (n + 1) (by omega)).2
        refine ⟨by omega, fun h3 => ?_⟩
        have h2 := (bS_n i hi (n + 2) (by omega)).2
        omega
      · rw [if_neg d] at h
        exact ih _ h
    · rw [if_neg c] at h
      exact absurd h (by decide)
def csZ (T : Nat → Int64) (Z : Nat → Nat) (K : Nat → Int64) (x y b : Nat) : (Nat → Nat) × (Nat → Int64) × Nat :=
  if hsG 0 3 x y (gb T (Z 2) (lf T (Z 2) (b + 1))) 65 0 = true then (adZ T Z (lf T (Z 2) (lf T (Z 2) (b + 1) + 1)), adK T Z K 5 (lf T (Z 2) (lf T (Z 2) (b + 1) + 1)), 0)
  else if hsG 1 2 x y (gb T (Z 2) (lf T (Z 2) (b + 1))) 65 0 = true then (adZ T Z (lf T (Z 2) (b + 1)), adK T Z K 5 (lf T (Z 2) (b + 1)), 0)
  else (adZ T Z b, adK T Z K (if hsG 2 1 x y (gb T (Z 2) (lf T (Z 2) (b + 1))) 65 0 = true then 5 else 6) b, 0)
def cpR (T : Nat → Int64) (Z : Nat → Nat) (K : Nat → Int64) (x b y : Nat) : (Nat → Nat) × (Nat → Int64) × Nat :=
  if x = 10 then (pbZ T Z (Z 3 + 1), K, 0)
  else if isB x = true then (pbZ T Z b, K, 0)
  else if x = 47 ∧ y = 42 then ((pcZ T Z (lf T (Z 2) (b + 1))).1, K, (pcZ T Z (lf T (Z 2) (b + 1))).2)
  else if x = 47 ∧ y = 47 then (pbZ T Z (lnE T (Z 2) b), K, 0)
  else if isQ x = true then cqZ T Z K x
  else if x = 76 ∧ isQ y = true then cwZ T Z K b y
  else if isL x = true then (adZ T Z (nmE T (Z 2) b), adK T Z K 1 (nmE T (Z 2) b), 0)
  else if isD x = true ∨ (x = 46 ∧ isD y = true) then (adZ T Z (nuE T (Z 2) b x), adK T Z K 2 (nuE T (Z 2) b x), 0)
  else csZ T Z K x y b
def cpZ (T : Nat → Int64) (Z : Nat → Nat) (K : Nat → Int64) : (Nat → Nat) × (Nat → Int64) × Nat := cpR T Z K (gb T (Z 2) (Z 3)) (lf T (Z 2) (Z 3 + 1)) (gb T (Z 2) (lf T (Z 2) (Z 3 + 1)))
theorem isQ_lt {x : Nat} (h : isQ x = true) : x < 256 := by
  rcases Nat.lt_or_ge x 256 with q | q
  · exact q
  · rw [isQ_f (by omega)] at h; cases h
set_option maxHeartbeats 4000000 in
set_option maxRecDepth 100000 in
theorem c_cutSign (l : Launch) (dC : Nat → ClassId) (dI : Nat → Nat → Nat) (cA : ClassId) (a0 a1 a2 : Nat) (dK dV : Nat → Nat) (A0 : Nat → Prop) (sz : Nat) (Z : Nat → Nat) (T K : Nat → Int64) (x : Nat) (y : Nat) (b : Nat) (hn : Z 2 ≤ 32768) (h4 : Z 4 < 65536) (h10 : Z 10 < 2 ^ 29) (h11 : Z 11 ≤ 1) (ha : Z 3 ≤ Z 2) (hbn : b ≤ Z 2) (hyb : y = gb T (Z 2) b) : Met l yX0_cutSign wX0_cutSign ({ frames := 5, cells := 0, slots := 0, locals := 110 }) (va_Pc [.ref a0, .int (bI x), .int (bI y), .int (nI b)] (fun U => lmP dC dI cA a0 a1 a2 sz (Z, T, K) U ∧ swd dK dV A0 U U.heap)) (va_Qi (fun (r : Int32) (u : lmU) => r = nI (csZ T Z K x y b).2.2 ∧ u = ((csZ T Z K x y b).1, T, (csZ T Z K x y b).2.1)) (lmB dC dI cA a0 a1 a2 (va_A (lmW cA a0 a1 a2 (Z, T, K)) sz)) (va_A (lmW cA a0 a1 a2 (Z, T, K)) sz)) 0 0 (va_A (lmW cA a0 a1 a2 (Z, T, K)) sz) := by
  refine Met.ofW (cc := cX0_cutSign) (maxL := 7) (ret := (some .int)) (by decide) rfl ?_
  intro p e s m args below meth c s₁ B hml hv
  obtain ⟨rfl, ⟨hsz, hP, hK, hD0⟩, hw⟩ := hv
  have hx := B.exec
  have hb := B.bytes
  have hr := B.returns
  have hts : ∀ w ∈ bw, w.before _ s = true := fun w h => atoms_spec (ws := wX0_cutSign) B.pre w (bc w h)
  have hown : s.vm.findClass RX0 = some m.cls := findClass_of_methodNamed B.named
  have hlocks := B.notSynchronized
  subst hsz
  have hD := hD0.self (sz := s.heap.size)
  generalize hAe : va_A (lmW cA a0 a1 a2 (Z, T, K)) s.heap.size = A at hD ⊢
  have hA : ∀ q : Nat, s.heap.size ≤ q → A q := fun q h => by rw [← hAe]; exact Or.inr h
  have hS : va_S A s.heap s.heap [] := va_S.rf
  have hl := lv_entry ([.ref a0, .int (bI x), .int (bI y), .int (nI b)]) (n := 7) (Nat.le_of_ble_eq_true rfl)
  rw [lg_entry_eq]
  generalize (lg_sl ([.ref a0, .int (bI x), .int (bI y), .int (nI b)]) ++ List.replicate (7 - (lg_sl ([.ref a0, .int (bI x), .int (bI y), .int (nI b)])).length) Slot.unset).toArray = ls at hl ⊢
  have hl : lv_has ls 7 [(0, .ref a0), (1, .int (bI x)), (2, .int (bI y)), (3, .int (nI b))] := hl
  have := gb_in T (Z 2) b
  refine lv_aload_n hx hb dX0_cutSign_0 rfl (lv_at hl 0 rfl) ?_
  refine lv_iload_n hx hb dX0_cutSign_1 rfl (lv_at hl 3 rfl) ?_
  refine lv_iconst (v := nI 1) hx hb dX0_cutSign_2 (by decide) ?_
  refine lv_iadd hx hb dX0_cutSign_3 ?_
  refine lv_topi (fun x_1 e_2 => ?_)
  obtain rfl : x_1 = nI (b + 1) := e_2.trans (nI_add b 1)
  refine vp_callSi (va_Run.run (va_runV (As := [.int (nI (b + 1))]) (rest := []) ⟨hx, hb, hml, hown, hts⟩ (c_leftFrom l dC dI cA a0 a1 a2 Z T K (b + 1) (show Z 2 ≤ 32768 by omega) (show b + 1 < 2 ^ 30 by omega)) (cwV 1 hts (gV (fun _ h => h) ml_X0_42 im_X0_leftFrom se_X0_leftFrom ini_X0 co_X0_leftFrom) rfl rfl rfl pd_X0_leftFrom ⟨Nat.le_of_ble_eq_true rfl, Nat.le_of_ble_eq_true rfl⟩) (lm_preR hK hP) rfl rfl hl.1 rfl (lv_room (Nat.le_of_ble_eq_true rfl)) dX0_cutSign_4 ⟨Nat.zero_le _, Nat.zero_le _⟩)) (fun r_3 (e_4 : r_3 = nI (lf T (Z 2) (b + 1))) => ?_)
  subst e_4
  have := lf_b T (Z 2) (b + 1)
  refine lv_istore (lv' := [(4, .int (nI (lf T (Z 2) (b + 1)))), (0, .ref a0), (1, .int (bI x)), (2, .int (bI y)), (3, .int (nI b))]) hx hb dX0_cutSign_7 hl (by decide) rfl (fun ls hl => ?_)
  refine lv_aload_n hx hb dX0_cutSign_9 rfl (lv_at hl 1 rfl) ?_
  refine lv_iload hx hb dX0_cutSign_10 (lv_at hl 0 rfl) ?_
  refine vp_callSi (va_Run.run (va_runV (As := [.int (nI (lf T (Z 2) (b + 1)))]) (rest := []) ⟨hx, hb, hml, hown, hts⟩ (c_byteAt l dC dI cA a0 a1 a2 Z T K (lf T (Z 2) (b + 1)) (show Z 2 ≤ 32768 by omega) (show lf T (Z 2) (b + 1) < 2 ^ 31 by omega)) (cwV 1 hts (gV (fun _ h => h) ml_X0_28 im_X0_byteAt se_X0_byteAt ini_X0 co_X0_byteAt) rfl rfl rfl pd_X0_byteAt ⟨Nat.le_of_ble_eq_true rfl, Nat.le_of_ble_eq_true rfl⟩) (lm_preR hK hP) rfl rfl hl.1 rfl (lv_room (Nat.le_of_ble_eq_true rfl)) dX0_cutSign_12 ⟨Nat.zero_le _, Nat.zero_le _⟩)) (fun r_5 (e_6 : r_5 = bI (gb T (Z 2) (lf T (Z 2) (b + 1)))) => ?_)
  subst e_6
  have := gb_in T (Z 2) (lf T (Z 2) (b + 1))
  refine lv_istore (lv' := [(5, .int (bI (gb T (Z 2) (lf T (Z 2) (b + 1))))), (4, .int (nI (lf T (Z 2) (b + 1)))), (0, .ref a0), (1, .int (bI x)), (2, .int (bI y)), (3, .int (nI b))]) hx hb dX0_cutSign_15 hl (by decide) rfl (fun ls hl => ?_)
  refine va_ldcS hx hb hown hw.2.2.2.1 dX0_cutSign_17 ?_
  refine lv_iconst (v := nI 3) hx hb dX0_cutSign_19 (by decide) ?_
  refine lv_iload_n hx hb dX0_cutSign_20 rfl (lv_at hl 3 rfl) ?_
  refine lv_iload_n hx hb dX0_cutSign_21 rfl (lv_at hl 4 rfl) ?_
  refine lv_iload hx hb dX0_cutSign_22 (lv_at hl 0 rfl) ?_
  refine vp_callSi (va_Run.run (va_runS (As := [.ref (dK 0), .int (nI 3), .int (bI x), .int (bI y), .int (bI (gb T (Z 2) (lf T (Z 2) (b + 1))))]) (rest := []) ⟨hx, hb, hml, hown, hts⟩ (c_hasSign l dK dV A0 0 3 x y (gb T (Z 2) (lf T (Z 2) (b + 1))) (by decide) (by decide) (by decide)) (cwS 5 hts (gS (fun _ h => h) ml_X0_163 sm_X0_hasSign ini_X0 co_X0_hasSign) rfl rfl rfl pd_X0_hasSign ⟨Nat.le_of_ble_eq_true rfl, Nat.le_of_ble_eq_true rfl⟩) (sw_preS hw) rfl rfl hl.1 rfl (lv_room (Nat.le_of_ble_eq_true rfl)) dX0_cutSign_24 ⟨Nat.zero_le _, Nat.zero_le _⟩)) (fun r_7 (e_8 : r_7 = b2i (hsG 0 3 x y (gb T (Z 2) (lf T (Z 2) (b + 1))) 65 0)) => ?_)
  subst e_8
  refine lv_if_eq (tgt := 44) hx hb dX0_cutSign_27 (by decide) (fun c_9 => ?_) (fun c_9 => ?_)
  · have c_9 := (b2i_z (hsG 0 3 x y (gb T (Z 2) (lf T (Z 2) (b + 1))) 65 0)).mp c_9
    refine va_ldcS hx hb hown hw.2.2.2.2.1 dX0_cutSign_44 ?_
    refine lv_iconst (v := nI 2) hx hb dX0_cutSign_46 (by decide) ?_
    refine lv_iload_n hx hb dX0_cutSign_47 rfl (lv_at hl 3 rfl) ?_
    refine lv_iload_n hx hb dX0_cutSign_48 rfl (lv_at hl 4 rfl) ?_
    refine lv_iload hx hb dX0_cutSign_49 (lv_at hl 0 rfl) ?_
    refine vp_callSi (va_Run.run (va_runS (As := [.ref (dK 1), .int (nI 2), .int (bI x), .int (bI y), .int (bI (gb T (Z 2) (lf T (Z 2) (b + 1))))]) (rest := []) ⟨hx, hb, hml, hown, hts⟩ (c_hasSign l dK dV A0 1 2 x y (gb T (Z 2) (lf T (Z 2) (b + 1))) (by decide) (by decide) (by decide)) (cwS 5 hts (gS (fun _ h => h) ml_X0_163 sm_X0_hasSign ini_X0 co_X0_hasSign) rfl rfl rfl pd_X0_hasSign ⟨Nat.le_of_ble_eq_true rfl, Nat.le_of_ble_eq_true rfl⟩) (sw_preS hw) rfl rfl hl.1 rfl (lv_room (Nat.le_of_ble_eq_true rfl)) dX0_cutSign_51 ⟨Nat.zero_le _, Nat.zero_le _⟩)) (fun r_10 (e_11 : r_10 = b2i (hsG 1 2 x y (gb T (Z 2) (lf T (Z 2) (b + 1))) 65 0)) => ?_)
    subst e_11
    refine lv_if_eq (tgt := 65) hx hb dX0_cutSign_54 (by decide) (fun c_12 => ?_) (fun c_12 => ?_)
    · have c_12 := (b2i_z (hsG 1 2 x y (gb T (Z 2) (lf T (Z 2) (b + 1))) 65 0)).mp c_12
      refine va_ldcS hx hb hown hw.2.2.2.2.2.1 dX0_cutSign_65 ?_
      refine lv_iconst (v := nI 1) hx hb dX0_cutSign_67 (by decide) ?_
      refine lv_iload_n hx hb dX0_cutSign_68 rfl (lv_at hl 3 rfl) ?_
      refine lv_iload_n hx hb dX0_cutSign_69 rfl (lv_at hl 4 rfl) ?_
      refine lv_iload hx hb dX0_cutSign_70 (lv_at hl 0 rfl) ?_
      refine vp_callSi (va_Run.run (va_runS (As := [.ref (dK 2), .int (nI 1), .int (bI x), .int (bI y), .int (bI (gb T (Z 2) (lf T (Z 2) (b + 1))))]) (rest := []) ⟨hx, hb, hml, hown, hts⟩ (c_hasSign l dK dV A0 2 1 x y (gb T (Z 2) (lf T (Z 2) (b + 1))) (by decide) (by decide) (by decide)) (cwS 5 hts (gS (fun _ h => h) ml_X0_163 sm_X0_hasSign ini_X0 co_X0_hasSign) rfl rfl rfl pd_X0_hasSign ⟨Nat.le_of_ble_eq_true rfl, Nat.le_of_ble_eq_true rfl⟩) (sw_preS hw) rfl rfl hl.1 rfl (lv_room (Nat.le_of_ble_eq_true rfl)) dX0_cutSign_72 ⟨Nat.zero_le _, Nat.zero_le _⟩)) (fun r_13 (e_14 : r_13 = b2i (hsG 2 1 x y (gb T (Z 2) (lf T (Z 2) (b + 1))) 65 0)) => ?_)
      subst e_14
      refine lv_istore (lv' := [(6, .int (b2i (hsG 2 1 x y (gb T (Z 2) (lf T (Z 2) (b + 1))) 65 0))), (5, .int (bI (gb T (Z 2) (lf T (Z 2) (b + 1))))), (4, .int (nI (lf T (Z 2) (b + 1)))), (0, .ref a0), (1, .int (bI x)), (2, .int (bI y)), (3, .int (nI b))]) hx hb dX0_cutSign_75 hl (by decide) rfl (fun ls hl => ?_)
      refine lv_aload_n hx hb dX0_cutSign_77 rfl (lv_at hl 3 rfl) ?_
      refine lv_iload hx hb dX0_cutSign_78 (lv_at hl 0 rfl) ?_
      refine lv_if_eq (tgt := 87) hx hb dX0_cutSign_80 (by decide) (fun c_15 => ?_) (fun c_15 => ?_)
      · have c_15 := (b2i_z (hsG 2 1 x y (gb T (Z 2) (lf T (Z 2) (b + 1))) 65 0)).mp c_15
        refine lv_bipush (v := nI 6) hx hb dX0_cutSign_87 (by decide) ?_
        refine lv_iload_n hx hb dX0_cutSign_89 rfl (lv_at hl 6 rfl) ?_
        refine lm_calli (va_runV (As := [.int (nI 6), .int (nI b)]) (rest := []) ⟨hx, hb, hml, hown, hts⟩ (c_addToken l dC dI cA a0 a1 a2 s.heap.size Z T K 6 b (show Z 2 ≤ 32768 by omega) (show b ≤ Z 2 by omega) (show Z 3 ≤ Z 2 by omega) (show Z 4 < 65536 by omega) (show Z 10 < 2 ^ 29 by omega) (show Z 11 ≤ 1 by omega) (show 6 < 16 by omega)) (cwV 2 hts (gV (fun _ h => h) ml_X0_139 im_X0_addToken se_X0_addToken ini_X0 co_X0_addToken) rfl rfl rfl pd_X0_addToken ⟨Nat.le_of_ble_eq_true rfl, Nat.le_of_ble_eq_true rfl⟩) (lm_preS hK hP hD) rfl rfl hl.1 rfl (lv_room (Nat.le_of_ble_eq_true rfl)) dX0_cutSign_90 ⟨Nat.zero_le _, Nat.zero_le _⟩) hD hS hA (fun r_18 u_17 H locs q_16 hP hD hS => ?_)
        obtain ⟨rfl, rfl⟩ := q_16
        have hP : va_P (dC, dI) vwCl (lmW cA a0 a1 a2 ((adZ T Z b), T, (adK T Z K 6 b))) H := hP
        have hD : va_D A (lmW cA a0 a1 a2 ((adZ T Z b), T, (adK T Z K 6 b))) := hD
        have hP : va_P (dC, dI) vwCl (lmW cA a0 a1 a2 ((csZ T Z K x y b).1, T, (csZ T Z K x y b).2.1)) H := by rw [csZ, if_neg (by rw [c_9]; decide), if_neg (by rw [c_12]; decide), if_neg (by rw [c_15]; decide)]; exact hP
        have hD : va_D A (lmW cA a0 a1 a2 ((csZ T Z K x y b).1, T, (csZ T Z K x y b).2.1)) := by rw [csZ, if_neg (by rw [c_9]; decide), if_neg (by rw [c_12]; decide), if_neg (by rw [c_15]; decide)]; exact hD
        exact W.iret (v := nI 0) hx hb hr (fun t ht hW => ⟨⟨_, ((csZ T Z K x y b).1, T, (csZ T Z K x y b).2.1), rfl, ⟨by rw [csZ, if_neg (by rw [c_9]; decide), if_neg (by rw [c_12]; decide), if_neg (by rw [c_15]; decide)], rfl⟩, by rw [ht]; exact hP, va_K.moved hW.alike hK, hD⟩, hS.F ht⟩) hS.2.2 dX0_cutSign_93
      · have c_15 := mt (b2i_z (hsG 2 1 x y (gb T (Z 2) (lf T (Z 2) (b + 1))) 65 0)).mpr c_15
        refine lv_iconst (v := nI 5) hx hb dX0_cutSign_83 (by decide) ?_
        refine lv_goto (tgt := 89) hx hb dX0_cutSign_84 (by decide) ?_
        refine lv_iload_n hx hb dX0_cutSign_89 rfl (lv_at hl 6 rfl) ?_
        refine lm_calli (va_runV (As := [.int (nI 5), .int (nI b)]) (rest := []) ⟨hx, hb, hml, hown, hts⟩ (c_addToken l dC dI cA a0 a1 a2 s.heap.size Z T K 5 b (show Z 2 ≤ 32768 by omega) (show b ≤ Z 2 by omega) (show Z 3 ≤ Z 2 by omega) (show Z 4 < 65536 by omega) (show Z 10 < 2 ^ 29 by omega) (show Z 11 ≤ 1 by omega) (show 5 < 16 by omega)) (cwV 2 hts (gV (fun _ h => h) ml_X0_139 im_X0_addToken se_X0_addToken ini_X0 co_X0_addToken) rfl rfl rfl pd_X0_addToken ⟨Nat.le_of_ble_eq_true rfl, Nat.le_of_ble_eq_true rfl⟩) (lm_preS hK hP hD) rfl rfl hl.1 rfl (lv_room (Nat.le_of_ble_eq_true rfl)) dX0_cutSign_90 ⟨Nat.zero_le _, Nat.zero_le _⟩) hD hS hA (fun r_21 u_20 H locs q_19 hP hD hS => ?_)
        obtain ⟨rfl, rfl⟩ := q_19
        have hP : va_P (dC, dI) vwCl (lmW cA a0 a1 a2 ((adZ T Z b), T, (adK T Z K 5 b))) H := hP
        have hD : va_D A (lmW cA a0 a1 a2 ((adZ T Z b), T, (adK T Z K 5 b))) := hD
        have hP : va_P (dC, dI) vwCl (lmW cA a0 a1 a2 ((csZ T Z K x y b).1, T, (csZ T Z K x y b).2.1)) H := by rw [csZ, if_neg (by rw [c_9]; decide), if_neg (by rw [c_12]; decide), if_pos (by simpa using c_15)]; exact hP
        have hD : va_D A (lmW cA a0 a1 a2 ((csZ T Z K x y b).1, T, (csZ T Z K x y b).2.1)) := by rw [csZ, if_neg (by rw [c_9]; decide), if_neg (by rw [c_12]; decide), if_pos (by simpa using c_15)]; exact hD
        exact W.iret (v := nI 0) hx hb hr (fun t ht hW => ⟨⟨_, ((csZ T Z K x y b).1, T, (csZ T Z K x y b).2.1), rfl, ⟨by rw [csZ, if_neg (by rw [c_9]; decide), if_neg (by rw [c_12]; decide), if_pos (by simpa using c_15)], rfl⟩, by rw [ht]; exact hP, va_K.moved hW.alike hK, hD⟩, hS.F ht⟩) hS.2.2 dX0_cutSign_93
    · have c_12 := mt (b2i_z (hsG 1 2 x y (gb T (Z 2) (lf T (Z 2) (b + 1))) 65 0)).mpr c_12
      have hy3 := hsG_y (by decide) (by decide) 65 0 (show hsG 1 2 x y (gb T (Z 2) (lf T (Z 2) (b + 1))) 65 0 = true by simpa using c_12)
      refine lv_aload_n hx hb dX0_cutSign_57 rfl (lv_at hl 2 rfl) ?_
      refine lv_iconst (v := nI 5) hx hb dX0_cutSign_58 (by decide) ?_
      refine lv_iload hx hb dX0_cutSign_59 (lv_at hl 1 rfl) ?_
      refine lm_calli (va_runV (As := [.int (nI 5), .int (nI (lf T (Z 2) (b + 1)))]) (rest := []) ⟨hx, hb, hml, hown, hts⟩ (c_addToken l dC dI cA a0 a1 a2 s.heap.size Z T K 5 (lf T (Z 2) (b + 1)) (show Z 2 ≤ 32768 by omega) (show lf T (Z 2) (b + 1) ≤ Z 2 by omega) (show Z 3 ≤ Z 2 by omega) (show Z 4 < 65536 by omega) (show Z 10 < 2 ^ 29 by omega) (show Z 11 ≤ 1 by omega) (show 5 < 16 by omega)) (cwV 2 hts (gV (fun _ h => h) ml_X0_139 im_X0_addToken se_X0_addToken ini_X0 co_X0_addToken) rfl rfl rfl pd_X0_addToken ⟨Nat.le_of_ble_eq_true rfl, Nat.le_of_ble_eq_true rfl⟩) (lm_preS hK hP hD) rfl rfl hl.1 rfl (lv_room (Nat.le_of_ble_eq_true rfl)) dX0_cutSign_61 ⟨Nat.zero_le _, Nat.zero_le _⟩) hD hS hA (fun r_24 u_23 H locs q_22 hP hD hS => ?_)
      obtain ⟨rfl, rfl⟩ := q_22
      have hP : va_P (dC, dI) vwCl (lmW cA a0 a1 a2 ((adZ T Z (lf T (Z 2) (b + 1))), T, (adK T Z K 5 (lf T (Z 2) (b + 1))))) H := hP
      have hD : va_D A (lmW cA a0 a1 a2 ((adZ T Z (lf T (Z 2) (b + 1))), T, (adK T Z K 5 (lf T (Z 2) (b + 1))))) := hD
      have hP : va_P (dC, dI) vwCl (lmW cA a0 a1 a2 ((csZ T Z K x y b).1, T, (csZ T Z K x y b).2.1)) H := by rw [csZ, if_neg (by rw [c_9]; decide), if_pos (by simpa using c_12)]; exact hP
      have hD : va_D A (lmW cA a0 a1 a2 ((csZ T Z K x y b).1, T, (csZ T Z K x y b).2.1)) := by rw [csZ, if_neg (by rw [c_9]; decide), if_pos (by simpa using c_12)]; exact hD
      exact W.iret (v := nI 0) hx hb hr (fun t ht hW => ⟨⟨_, ((csZ T Z K x y b).1, T, (csZ T Z K x y b).2.1), rfl, ⟨by rw [csZ, if_neg (by rw [c_9]; decide), if_pos (by simpa using c_12)], rfl⟩, by rw [ht]; exact hP, va_K.moved hW.alike hK, hD⟩, hS.F ht⟩) hS.2.2 dX0_cutSign_64
  · have c_9 := mt (b2i_z (hsG 0 3 x y (gb T (Z 2) (lf T (Z 2) (b + 1))) 65 0)).mpr c_9
    have hy3 := hsG_y (by decide) (by decide) 65 0 (show hsG 0 3 x y (gb T (Z 2) (lf T (Z 2) (b + 1))) 65 0 = true by simpa using c_9)
    have hz3 := hy3.2 (by decide)
    refine lv_aload_n hx hb dX0_cutSign_30 rfl (lv_at hl 2 rfl) ?_
    refine lv_iconst (v := nI 5) hx hb dX0_cutSign_31 (by decide) ?_
    refine lv_aload_n hx hb dX0_cutSign_32 rfl (lv_at hl 2 rfl) ?_
    refine lv_iload hx hb dX0_cutSign_33 (lv_at hl 1 rfl) ?_
    refine lv_iconst (v := nI 1) hx hb dX0_cutSign_35 (by decide) ?_
    refine lv_iadd hx hb dX0_cutSign_36 ?_
    refine lv_topi (fun x_25 e_26 => ?_)
    obtain rfl : x_25 = nI (lf T (Z 2) (b + 1) + 1) := e_26.trans (nI_add (lf T (Z 2) (b + 1)) 1)
    refine vp_callSi (va_Run.run (va_runV (As := [.int (nI (lf T (Z 2) (b + 1) + 1))]) (rest := [.int (nI 5), .ref a0]) ⟨hx, hb, hml, hown, hts⟩ (c_leftFrom l dC dI cA a0 a1 a2 Z T K (lf T (Z 2) (b + 1) + 1) (show Z 2 ≤ 32768 by omega) (show lf T (Z 2) (b + 1) + 1 < 2 ^ 30 by omega)) (cwV 1 hts (gV (fun _ h => h) ml_X0_42 im_X0_leftFrom se_X0_leftFrom ini_X0 co_X0_leftFrom) rfl rfl rfl pd_X0_leftFrom ⟨Nat.le_of_ble_eq_true rfl, Nat.le_of_ble_eq_true rfl⟩) (lm_preR hK hP) rfl rfl hl.1 rfl (lv_room (Nat.le_of_ble_eq_true rfl)) dX0_cutSign_37 ⟨Nat.zero_le _, Nat.zero_le _⟩)) (fun r_27 (e_28 : r_27 = nI (lf T (Z 2) (lf T (Z 2) (b + 1) + 1))) => ?_)
    subst e_28
    have := lf_b T (Z 2) (lf T (Z 2) (b + 1) + 1)
    refine lm_calli (va_runV (As := [.int (nI 5), .int (nI (lf T (Z 2) (lf T (Z 2) (b + 1) + 1)))]) (rest := []) ⟨hx, hb, hml, hown, hts⟩ (c_addToken l dC dI cA a0 a1 a2 s.heap.size Z T K 5 (lf T (Z 2) (lf T (Z 2) (b + 1) + 1)) (show Z 2 ≤ 32768 by omega) (show lf T (Z 2) (lf T (Z 2) (b + 1) + 1) ≤ Z 2 by omega) (show Z 3 ≤ Z 2 by omega) (show Z 4 < 65536 by omega) (show Z 10 < 2 ^ 29 by omega) (show Z 11 ≤ 1 by omega) (show 5 < 16 by omega)) (cwV 2 hts (gV (fun _ h => h) ml_X0_139 im_X0_addToken se_X0_addToken ini_X0 co_X0_addToken) rfl rfl rfl pd_X0_addToken ⟨Nat.le_of_ble_eq_true rfl, Nat.le_of_ble_eq_true rfl⟩) (lm_preS hK hP hD) rfl rfl hl.1 rfl (lv_room (Nat.le_of_ble_eq_true rfl)) dX0_cutSign_40 ⟨Nat.zero_le _, Nat.zero_le _⟩) hD hS hA (fun r_31 u_30 H locs q_29 hP hD hS => ?_)
    obtain ⟨rfl, rfl⟩ := q_29
    have hP : va_P (dC, dI) vwCl (lmW cA a0 a1 a2 ((adZ T Z (lf T (Z 2) (lf T (Z 2) (b + 1) + 1))), T, (adK T Z K 5 (lf T (Z 2) (lf T (Z 2) (b + 1) + 1))))) H := hP
    have hD : va_D A (lmW cA a0 a1 a2 ((adZ T Z (lf T (Z 2) (lf T (Z 2) (b + 1) + 1))), T, (adK T Z K 5 (lf T (Z 2) (lf T (Z 2) (b + 1) + 1))))) := hD
    have hP : va_P (dC, dI) vwCl (lmW cA a0 a1 a2 ((csZ T Z K x y b).1, T, (csZ T Z K x y b).2.1)) H := by rw [csZ, if_pos (by simpa using c_9)]; exact hP
    have hD : va_D A (lmW cA a0 a1 a2 ((csZ T Z K x y b).1, T, (csZ T Z K x y b).2.1)) := by rw [csZ, if_pos (by simpa using c_9)]; exact hD
    exact W.iret (v := nI 0) hx hb hr (fun t ht hW => ⟨⟨_, ((csZ T Z K x y b).1, T, (csZ T Z K x y b).2.1), rfl, ⟨by rw [csZ, if_pos (by simpa using c_9)], rfl⟩, by rw [ht]; exact hP, va_K.moved hW.alike hK, hD⟩, hS.F ht⟩) hS.2.2 dX0_cutSign_43
set_option maxHeartbeats 4000000 in
set_option maxRecDepth 100000 in
theorem c_cutPiece (l : Launch) (dC : Nat → ClassId) (dI : Nat → Nat → Nat) (cA : ClassId) (a0 a1 a2 : Nat) (dK dV : Nat → Nat) (A0 : Nat → Prop) (sz : Nat) (Z : Nat → Nat) (T K : Nat → Int64)  (hn : Z 2 ≤ 32768) (h4 : Z 4 < 65536) (h10 : Z 10 < 2 ^ 29) (h11 : Z 11 ≤ 1) (h6 : Z 6 < 2 ^ 29) (h14 : Z 14 < 2 ^ 29) (h15 : Z 15 < 2 ^ 29) (ha : Z 3 < Z 2) : Met l yX0_cutPiece wX0_cutPiece ({ frames := 6, cells := 0, slots := 0, locals := 136 }) (va_Pc [.ref a0] (fun U => lmP dC dI cA a0 a1 a2 sz (Z, T, K) U ∧ swd dK dV A0 U U.heap)) (va_Qi (fun (r : Int32) (u : lmU) => r = nI (cpZ T Z K).2.2 ∧ u = ((cpZ T Z K).1, T, (cpZ T Z K).2.1)) (lmB dC dI cA a0 a1 a2 (va_A (lmW cA a0 a1 a2 (Z, T, K)) sz)) (va_A (lmW cA a0 a1 a2 (Z, T, K)) sz)) 0 0 (va_A (lmW cA a0 a1 a2 (Z, T, K)) sz) := by
  refine Met.ofW (cc := cX0_cutPiece) (maxL := 4) (ret := (some .int)) (by decide) rfl ?_
  intro p e s m args below meth c s₁ B hml hv
  obtain ⟨rfl, ⟨hsz, hP, hK, hD0⟩, hw⟩ := hv
  have hx := B.exec
  have hb := B.bytes
  have hr := B.returns
  have hts : ∀ w ∈ bw, w.before _ s = true := fun w h => atoms_spec (ws := wX0_cutPiece) B.pre w (bc w h)
  have hown : s.vm.findClass RX0 = some m.cls := findClass_of_methodNamed B.named
  have hlocks := B.notSynchronized
  subst hsz
  have hD := hD0.self (sz := s.heap.size)
  generalize hAe : va_A (lmW cA a0 a1 a2 (Z, T, K)) s.heap.size = A at hD ⊢
  have hA : ∀ q : Nat, s.heap.size ≤ q → A q := fun q h => by rw [← hAe]; exact Or.inr h
  have hS : va_S A s.heap s.heap [] := va_S.rf
  have hl := lv_entry ([.ref a0]) (n := 4) (Nat.le_of_ble_eq_true rfl)
  rw [lg_entry_eq]
  generalize (lg_sl ([.ref a0]) ++ List.replicate (4 - (lg_sl ([.ref a0])).length) Slot.unset).toArray = ls at hl ⊢
  have hl : lv_has ls 4 [(0, .ref a0)] := hl
  refine lv_aload_n hx hb dX0_cutPiece_0 rfl (lv_at hl 0 rfl) ?_
  refine lv_aload_n hx hb dX0_cutPiece_1 rfl (lv_at hl 0 rfl) ?_
  refine va_get (D := (dC, dI)) (ci := 0) (v := .int (nI (Z 3))) (C := RX0) (T := TX0) (N := 16) hx hb hts inX0 hown hK hP 0 rfl rfl 3 (by decide) (hts _ fl_X0_39) (fun _ h9 => h9) rfl dX0_cutPiece_2 ?_
  refine vp_callSi (va_Run.run (va_runV (As := [.int (nI (Z 3))]) (rest := []) ⟨hx, hb, hml, hown, hts⟩ (c_byteAt l dC dI cA a0 a1 a2 Z T K (Z 3) (show Z 2 ≤ 32768 by omega) (show Z 3 < 2 ^ 31 by omega)) (cwV 1 hts (gV (fun _ h => h) ml_X0_28 im_X0_byteAt se_X0_byteAt ini_X0 co_X0_byteAt) rfl rfl rfl pd_X0_byteAt ⟨Nat.le_of_ble_eq_true rfl, Nat.le_of_ble_eq_true rfl⟩) (lm_preR hK hP) rfl rfl hl.1 rfl (lv_room (Nat.le_of_ble_eq_true rfl)) dX0_cutPiece_5 ⟨Nat.zero_le _, Nat.zero_le _⟩)) (fun r_1 (e_2 : r_1 = bI (gb T (Z 2) (Z 3))) => ?_)
  subst e_2
  have := gb_in T (Z 2) (Z 3)
  refine lv_istore_n (lv' := [(1, .int (bI (gb T (Z 2) (Z 3)))), (0, .ref a0)]) hx hb dX0_cutPiece_8 rfl hl (by decide) rfl (fun ls hl => ?_)
  refine lv_aload_n hx hb dX0_cutPiece_9 rfl (lv_at hl 1 rfl) ?_
  refine lv_aload_n hx hb dX0_cutPiece_10 rfl (lv_at hl 1 rfl) ?_
  refine va_get (D := (dC, dI)) (ci := 0) (v := .int (nI (Z 3))) (C := RX0) (T := TX0) (N := 16) hx hb hts inX0 hown hK hP 0 rfl rfl 3 (by decide) (hts _ fl_X0_39) (fun _ h9 => h9) rfl dX0_cutPiece_11 ?_
  refine lv_iconst (v := nI 1) hx hb dX0_cutPiece_14 (by decide) ?_
  refine lv_iadd hx hb dX0_cutPiece_15 ?_
  refine lv_topi (fun x_3 e_4 => ?_)
  obtain rfl : x_3 = nI (Z 3 + 1) := e_4.trans (nI_add (Z 3) 1)
  refine vp_callSi (va_Run.run (va_runV (As := [.int (nI (Z 3 + 1))]) (rest := []) ⟨hx, hb, hml, hown, hts⟩ (c_leftFrom l dC dI cA a0 a1 a2 Z T K (Z 3 + 1) (show Z 2 ≤ 32768 by omega) (show Z 3 + 1 < 2 ^ 30 by omega)) (cwV 1 hts (gV (fun _ h => h) ml_X0_42 im_X0_leftFrom se_X0_leftFrom ini_X0 co_X0_leftFrom) rfl rfl rfl pd_X0_leftFrom ⟨Nat.le_of_ble_eq_true rfl, Nat.le_of_ble_eq_true rfl⟩) (lm_preR hK hP) rfl rfl hl.1 rfl (lv_room (Nat.le_of_ble_eq_true rfl)) dX0_cutPiece_16 ⟨Nat.zero_le _, Nat.zero_le _⟩)) (fun r_5 (e_6 : r_5 = nI (lf T (Z 2) (Z 3 + 1))) => ?_)
  subst e_6
  have := lf_b T (Z 2) (Z 3 + 1)
  refine lv_istore_n (lv' := [(2, .int (nI (lf T (Z 2) (Z 3 + 1)))), (1, .int (bI (gb T (Z 2) (Z 3)))), (0, .ref a0)]) hx hb dX0_cutPiece_19 rfl hl (by decide) rfl (fun ls hl => ?_)
  refine lv_aload_n hx hb dX0_cutPiece_20 rfl (lv_at hl 2 rfl) ?_
  refine lv_iload_n hx hb dX0_cutPiece_21 rfl (lv_at hl 0 rfl) ?_
  refine vp_callSi (va_Run.run (va_runV (As := [.int (nI (lf T (Z 2) (Z 3 + 1)))]) (rest := []) ⟨hx, hb, hml, hown, hts⟩ (c_byteAt l dC dI cA a0 a1 a2 Z T K (lf T (Z 2) (Z 3 + 1)) (show Z 2 ≤ 32768 by omega) (show lf T (Z 2) (Z 3 + 1) < 2 ^ 31 by omega)) (cwV 1 hts (gV (fun _ h => h) ml_X0_28 im_X0_byteAt se_X0_byteAt ini_X0 co_X0_byteAt) rfl rfl rfl pd_X0_byteAt ⟨Nat.le_of_ble_eq_true rfl, Nat.le_of_ble_eq_true rfl⟩) (lm_preR hK hP) rfl rfl hl.1 rfl (lv_room (Nat.le_of_ble_eq_true rfl)) dX0_cutPiece_22 ⟨Nat.zero_le _, Nat.zero_le _⟩)) (fun r_7 (e_8 : r_7 = bI (gb T (Z 2) (lf T (Z 2) (Z 3 + 1)))) => ?_)
  subst e_8
  have := gb_in T (Z 2) (lf T (Z 2) (Z 3 + 1))
  refine lv_istore_n (lv' := [(3, .int (bI (gb T (Z 2) (lf T (Z 2) (Z 3 + 1))))), (2, .int (nI (lf T (Z 2) (Z 3 + 1)))), (1, .int (bI (gb T (Z 2) (Z 3)))), (0, .ref a0)]) hx hb dX0_cutPiece_25 rfl hl (by decide) rfl (fun ls hl => ?_)
  refine lv_iload_n hx hb dX0_cutPiece_26 rfl (lv_at hl 2 rfl) ?_
  refine lv_bipush (v := nI 10) hx hb dX0_cutPiece_27 (by decide) ?_
  refine lv_icmp_ne (tgt := 43) hx hb dX0_cutPiece_29 (by decide) (fun c_9 => ?_) (fun c_9 => ?_)
  · have c_9 := mt (bI_eqN (by omega)).mpr c_9
    refine lv_iload_n hx hb dX0_cutPiece_43 rfl (lv_at hl 2 rfl) ?_
    refine vp_callSi (va_Run.run (va_runS (As := [.int (bI (gb T (Z 2) (Z 3)))]) (rest := []) ⟨hx, hb, hml, hown, hts⟩ (c_isBlank l (gb T (Z 2) (Z 3))) (cwS 1 hts (gS (fun _ h => h) ml_X0_115 sm_X0_isBlank ini_X0 co_X0_isBlank) rfl rfl rfl pd_X0_isBlank ⟨Nat.le_of_ble_eq_true rfl, Nat.le_of_ble_eq_true rfl⟩) st_pre rfl rfl hl.1 rfl (lv_room (Nat.le_of_ble_eq_true rfl)) dX0_cutPiece_44 ⟨Nat.zero_le _, Nat.zero_le _⟩)) (fun r_10 (e_11 : r_10 = b2i (isB (gb T (Z 2) (Z 3)))) => ?_)
    subst e_11
    refine lv_if_eq (tgt := 56) hx hb dX0_cutPiece_47 (by decide) (fun c_12 => ?_) (fun c_12 => ?_)
    · have c_12 := (b2i_z (isB (gb T (Z 2) (Z 3)))).mp c_12
      refine lv_iload_n hx hb dX0_cutPiece_56 rfl (lv_at hl 2 rfl) ?_
      refine lv_bipush (v := nI 47) hx hb dX0_cutPiece_57 (by decide) ?_
      refine lv_icmp_ne (tgt := 80) hx hb dX0_cutPiece_59 (by decide) (fun c_13 => ?_) (fun c_13 => ?_)
      · have c_13 := mt (bI_eqN (by omega)).mpr c_13
        refine lv_iload_n hx hb dX0_cutPiece_80 rfl (lv_at hl 2 rfl) ?_
        refine lv_bipush (v := nI 47) hx hb dX0_cutPiece_81 (by decide) ?_
        refine lv_icmp_ne (tgt := 102) hx hb dX0_cutPiece_83 (by decide) (fun c_14 => ?_) (fun c_14 => ?_)
        · have c_14 := mt (bI_eqN (by omega)).mpr c_14
          refine lv_iload_n hx hb dX0_cutPiece_102 rfl (lv_at hl 2 rfl) ?_
          refine vp_callSi (va_Run.run (va_runS (As := [.int (bI (gb T (Z 2) (Z 3)))]) (rest := []) ⟨hx, hb, hml, hown, hts⟩ (c_isQuote l (gb T (Z 2) (Z 3))) (cwS 1 hts (gS (fun _ h => h) ml_X0_124 sm_X0_isQuote ini_X0 co_X0_isQuote) rfl rfl rfl pd_X0_isQuote ⟨Nat.le_of_ble_eq_true rfl, Nat.le_of_ble_eq_true rfl⟩) st_pre rfl rfl hl.1 rfl (lv_room (Nat.le_of_ble_eq_true rfl)) dX0_cutPiece_103 ⟨Nat.zero_le _, Nat.zero_le _⟩)) (fun r_15 (e_16 : r_15 = b2i (isQ (gb T (Z 2) (Z 3)))) => ?_)
          subst e_16
          refine lv_if_eq (tgt := 115) hx hb dX0_cutPiece_106 (by decide) (fun c_17 => ?_) (fun c_17 => ?_)
          · have c_17 := (b2i_z (isQ (gb T (Z 2) (Z 3)))).mp c_17
            refine lv_iload_n hx hb dX0_cutPiece_115 rfl (lv_at hl 2 rfl) ?_
            refine lv_bipush (v := nI 76) hx hb dX0_cutPiece_116 (by decide) ?_
            refine lv_icmp_ne (tgt := 135) hx hb dX0_cutPiece_118 (by decide) (fun c_18 => ?_) (fun c_18 => ?_)
            · have c_18 := mt (bI_eqN (by omega)).mpr c_18
              refine lv_iload_n hx hb dX0_cutPiece_135 rfl (lv_at hl 2 rfl) ?_
              refine vp_callSi (va_Run.run (va_runS (As := [.int (bI (gb T (Z 2) (Z 3)))]) (rest := []) ⟨hx, hb, hml, hown, hts⟩ (c_isLetter l (gb T (Z 2) (Z 3))) (cwS 1 hts (gS (fun _ h => h) ml_X0_133 sm_X0_isLetter ini_X0 co_X0_isLetter) rfl rfl rfl pd_X0_isLetter ⟨Nat.le_of_ble_eq_true rfl, Nat.le_of_ble_eq_true rfl⟩) st_pre rfl rfl hl.1 rfl (lv_room (Nat.le_of_ble_eq_true rfl)) dX0_cutPiece_136 ⟨Nat.zero_le _, Nat.zero_le _⟩)) (fun r_19 (e_20 : r_19 = b2i (isL (gb T (Z 2) (Z 3)))) => ?_)
              subst e_20
              refine lv_if_eq (tgt := 153) hx hb dX0_cutPiece_139 (by decide) (fun c_21 => ?_) (fun c_21 => ?_)
              · have c_21 := (b2i_z (isL (gb T (Z 2) (Z 3)))).mp c_21
                refine lv_iload_n hx hb dX0_cutPiece_153 rfl (lv_at hl 2 rfl) ?_
                refine vp_callSi (va_Run.run (va_runS (As := [.int (bI (gb T (Z 2) (Z 3)))]) (rest := []) ⟨hx, hb, hml, hown, hts⟩ (c_isDigit l (gb T (Z 2) (Z 3))) (cwS 1 hts (gS (fun _ h => h) ml_X0_142 sm_X0_isDigit ini_X0 co_X0_isDigit) rfl rfl rfl pd_X0_isDigit ⟨Nat.le_of_ble_eq_true rfl, Nat.le_of_ble_eq_true rfl⟩) st_pre rfl rfl hl.1 rfl (lv_room (Nat.le_of_ble_eq_true rfl)) dX0_cutPiece_154 ⟨Nat.zero_le _, Nat.zero_le _⟩)) (fun r_22 (e_23 : r_22 = b2i (isD (gb T (Z 2) (Z 3)))) => ?_)
                subst e_23
                refine lv_if_ne (tgt := 173) hx hb dX0_cutPiece_157 (by decide) (fun c_24 => ?_) (fun c_24 => ?_)
                · have c_24 := mt (b2i_z (isD (gb T (Z 2) (Z 3)))).mpr c_24
                  refine lv_aload_n hx hb dX0_cutPiece_173 rfl (lv_at hl 3 rfl) ?_
                  refine lv_iconst (v := nI 2) hx hb dX0_cutPiece_174 (by decide) ?_
                  refine lv_aload_n hx hb dX0_cutPiece_175 rfl (lv_at hl 3 rfl) ?_
                  refine lv_iload_n hx hb dX0_cutPiece_176 rfl (lv_at hl 1 rfl) ?_
                  refine lv_iload_n hx hb dX0_cutPiece_177 rfl (lv_at hl 2 rfl) ?_
                  refine vp_callSi (va_Run.run (va_runV (As := [.int (nI (lf T (Z 2) (Z 3 + 1))), .int (bI (gb T (Z 2) (Z 3)))]) (rest := [.int (nI 2), .ref a0]) ⟨hx, hb, hml, hown, hts⟩ (c_numberEnd l dC dI cA a0 a1 a2 Z T K (lf T (Z 2) (Z 3 + 1)) (gb T (Z 2) (Z 3)) (show Z 2 ≤ 32768 by omega) (show lf T (Z 2) (Z 3 + 1) < 2 ^ 30 - 1 by omega)) (cwV 2 hts (gV (fun _ h => h) ml_X0_145 im_X0_numberEnd se_X0_numberEnd ini_X0 co_X0_numberEnd) rfl rfl rfl pd_X0_numberEnd ⟨Nat.le_of_ble_eq_true rfl, Nat.le_of_ble_eq_true rfl⟩) (lm_preR hK hP) rfl rfl hl.1 rfl (lv_room (Nat.le_of_ble_eq_true rfl)) dX0_cutPiece_178 ⟨Nat.zero_le _, Nat.zero_le _⟩)) (fun r_25 (e_26 : r_25 = nI (nuE T (Z 2) (lf T (Z 2) (Z 3 + 1)) (gb T (Z 2) (Z 3)))) => ?_)
                  subst e_26
                  have := nuE_b T (Z 2) (lf T (Z 2) (Z 3 + 1)) (gb T (Z 2) (Z 3))
                  refine lm_calli (va_runV (As := [.int (nI 2), .int (nI (nuE T (Z 2) (lf T (Z 2) (Z 3 + 1)) (gb T (Z 2) (Z 3))))]) (rest := []) ⟨hx, hb, hml, hown, hts⟩ (c_addToken l dC dI cA a0 a1 a2 s.heap.size Z T K 2 (nuE T (Z 2) (lf T (Z 2) (Z 3 + 1)) (gb T (Z 2) (Z 3))) (show Z 2 ≤ 32768 by omega) (show nuE T (Z 2) (lf T (Z 2) (Z 3 + 1)) (gb T (Z 2) (Z 3)) ≤ Z 2 by omega) (show Z 3 ≤ Z 2 by omega) (show Z 4 < 65536 by omega) (show Z 10 < 2 ^ 29 by omega) (show Z 11 ≤ 1 by omega) (show 2 < 16 by omega)) (cwV 2 hts (gV (fun _ h => h) ml_X0_139 im_X0_addToken se_X0_addToken ini_X0 co_X0_addToken) rfl rfl rfl pd_X0_addToken ⟨Nat.le_of_ble_eq_true rfl, Nat.le_of_ble_eq_true rfl⟩) (lm_preS hK hP hD) rfl rfl hl.1 rfl (lv_room (Nat.le_of_ble_eq_true rfl)) dX0_cutPiece_181 ⟨Nat.zero_le _, Nat.zero_le _⟩) hD hS hA (fun r_29 u_28 H locs q_27 hP hD hS => ?_)
                  obtain ⟨rfl, rfl⟩ := q_27
                  have hP : va_P (dC, dI) vwCl (lmW cA a0 a1 a2 ((adZ T Z (nuE T (Z 2) (lf T (Z 2) (Z 3 + 1)) (gb T (Z 2) (Z 3)))), T, (adK T Z K 2 (nuE T (Z 2) (lf T (Z 2) (Z 3 + 1)) (gb T (Z 2) (Z 3)))))) H := hP
                  have hD : va_D A (lmW cA a0 a1 a2 ((adZ T Z (nuE T (Z 2) (lf T (Z 2) (Z 3 + 1)) (gb T (Z 2) (Z 3)))), T, (adK T Z K 2 (nuE T (Z 2) (lf T (Z 2) (Z 3 + 1)) (gb T (Z 2) (Z 3)))))) := hD
                  have hP : va_P (dC, dI) vwCl (lmW cA a0 a1 a2 ((cpZ T Z K).1, T, (cpZ T Z K).2.1)) H := by rw [cpZ, cpR, if_neg (by omega), if_neg (by rw [c_12]; decide), if_neg (by omega), if_neg (by omega), if_neg (by rw [c_17]; decide), if_neg (fun z => by have := z.1; omega), if_neg (by rw [c_21]; decide), if_pos (Or.inl (by simpa using c_24))]; exact hP
                  have hD : va_D A (lmW cA a0 a1 a2 ((cpZ T Z K).1, T, (cpZ T Z K).2.1)) := by rw [cpZ, cpR, if_neg (by omega), if_neg (by rw [c_12]; decide), if_neg (by omega), if_neg (by omega), if_neg (by rw [c_17]; decide), if_neg (fun z => by have := z.1; omega), if_neg (by rw [c_21]; decide), if_pos (Or.inl (by simpa using c_24))]; exact hD
                  exact W.iret (v := nI 0) hx hb hr (fun t ht hW => ⟨⟨_, ((cpZ T Z K).1, T, (cpZ T Z K).2.1), rfl, ⟨by rw [cpZ, cpR, if_neg (by omega), if_neg (by rw [c_12]; decide), if_neg (by omega), if_neg (by omega), if_neg (by rw [c_17]; decide), if_neg (fun z => by have := z.1; omega), if_neg (by rw [c_21]; decide), if_pos (Or.inl (by simpa using c_24))], rfl⟩, by rw [ht]; exact hP, va_K.moved hW.alike hK, hD⟩, hS.F ht⟩) hS.2.2 dX0_cutPiece_184
                · have c_24 := (b2i_z (isD (gb T (Z 2) (Z 3)))).mp c_24
                  refine lv_iload_n hx hb dX0_cutPiece_160 rfl (lv_at hl 2 rfl) ?_
                  refine lv_bipush (v := nI 46) hx hb dX0_cutPiece_161 (by decide) ?_
                  refine lv_icmp_ne (tgt := 185) hx hb dX0_cutPiece_163 (by decide) (fun c_30 => ?_) (fun c_30 => ?_)
                  · have c_30 := mt (bI_eqN (by omega)).mpr c_30
                    refine lv_aload_n hx hb dX0_cutPiece_185 rfl (lv_at hl 3 rfl) ?_
                    refine lv_iload_n hx hb dX0_cutPiece_186 rfl (lv_at hl 2 rfl) ?_
                    refine lv_iload_n hx hb dX0_cutPiece_187 rfl (lv_at hl 0 rfl) ?_
                    refine lv_iload_n hx hb dX0_cutPiece_188 rfl (lv_at hl 1 rfl) ?_
                    have hwH := hw
                    refine lm_calli (va_runV (As := [.int (bI (gb T (Z 2) (Z 3))), .int (bI (gb T (Z 2) (lf T (Z 2) (Z 3 + 1)))), .int (nI (lf T (Z 2) (Z 3 + 1)))]) (rest := []) ⟨hx, hb, hml, hown, hts⟩ (c_cutSign l dC dI cA a0 a1 a2 dK dV A0 s.heap.size Z T K (gb T (Z 2) (Z 3)) (gb T (Z 2) (lf T (Z 2) (Z 3 + 1))) (lf T (Z 2) (Z 3 + 1)) (show Z 2 ≤ 32768 by omega) (show Z 4 < 65536 by omega) (show Z 10 < 2 ^ 29 by omega) (show Z 11 ≤ 1 by omega) (show Z 3 ≤ Z 2 by omega) (show lf T (Z 2) (Z 3 + 1) ≤ Z 2 by omega) (show gb T (Z 2) (lf T (Z 2) (Z 3 + 1)) = gb T (Z 2) (lf T (Z 2) (Z 3 + 1)) by omega)) (cwV 3 hts (gV (fun _ h => h) ml_X0_148 im_X0_cutSign se_X0_cutSign ini_X0 co_X0_cutSign) rfl rfl rfl pd_X0_cutSign ⟨Nat.le_of_ble_eq_true rfl, Nat.le_of_ble_eq_true rfl⟩) (lm_preW hK hP hD hwH) rfl rfl hl.1 rfl (lv_room (Nat.le_of_ble_eq_true rfl)) dX0_cutPiece_189 ⟨Nat.zero_le _, Nat.zero_le _⟩) hD hS hA (fun r_33 u_32 H locs q_31 hP hD hS => ?_)
                    obtain ⟨rfl, rfl⟩ := q_31
                    have hP : va_P (dC, dI) vwCl (lmW cA a0 a1 a2 ((csZ T Z K (gb T (Z 2) (Z 3)) (gb T (Z 2) (lf T (Z 2) (Z 3 + 1))) (lf T (Z 2) (Z 3 + 1))).1, T, (csZ T Z K (gb T (Z 2) (Z 3)) (gb T (Z 2) (lf T (Z 2) (Z 3 + 1))) (lf T (Z 2) (Z 3 + 1))).2.1)) H := hP
                    have hD : va_D A (lmW cA a0 a1 a2 ((csZ T Z K (gb T (Z 2) (Z 3)) (gb T (Z 2) (lf T (Z 2) (Z 3 + 1))) (lf T (Z 2) (Z 3 + 1))).1, T, (csZ T Z K (gb T (Z 2) (Z 3)) (gb T (Z 2) (lf T (Z 2) (Z 3 + 1))) (lf T (Z 2) (Z 3 + 1))).2.1)) := hD
                    have hP : va_P (dC, dI) vwCl (lmW cA a0 a1 a2 ((cpZ T Z K).1, T, (cpZ T Z K).2.1)) H := by rw [cpZ, cpR, if_neg (by omega), if_neg (by rw [c_12]; decide), if_neg (by omega), if_neg (by omega), if_neg (by rw [c_17]; decide), if_neg (fun z => by have := z.1; omega), if_neg (by rw [c_21]; decide), if_neg (fun z => by rcases z with z | z; exact absurd z (by rw [c_24]; decide); have := z.1; omega)]; exact hP
                    have hD : va_D A (lmW cA a0 a1 a2 ((cpZ T Z K).1, T, (cpZ T Z K).2.1)) := by rw [cpZ, cpR, if_neg (by omega), if_neg (by rw [c_12]; decide), if_neg (by omega), if_neg (by omega), if_neg (by rw [c_17]; decide), if_neg (fun z => by have := z.1; omega), if_neg (by rw [c_21]; decide), if_neg (fun z => by rcases z with z | z; exact absurd z (by rw [c_24]; decide); have := z.1; omega)]; exact hD
                    exact W.iret (v := nI ((csZ T Z K (gb T (Z 2) (Z 3)) (gb T (Z 2) (lf T (Z 2) (Z 3 + 1))) (lf T (Z 2) (Z 3 + 1))).2.2)) hx hb hr (fun t ht hW => ⟨⟨_, ((cpZ T Z K).1, T, (cpZ T Z K).2.1), rfl, ⟨by rw [cpZ, cpR, if_neg (by omega), if_neg (by rw [c_12]; decide), if_neg (by omega), if_neg (by omega), if_neg (by rw [c_17]; decide), if_neg (fun z => by have := z.1; omega), if_neg (by rw [c_21]; decide), if_neg (fun z => by rcases z with z | z; exact absurd z (by rw [c_24]; decide); have := z.1; omega)], rfl⟩, by rw [ht]; exact hP, va_K.moved hW.alike hK, hD⟩, hS.F ht⟩) hS.2.2 dX0_cutPiece_192
                  · have c_30 := (bI_eqN (by omega)).mp c_30
                    refine lv_iload_n hx hb dX0_cutPiece_166 rfl (lv_at hl 0 rfl) ?_
                    refine vp_callSi (va_Run.run (va_runS (As := [.int (bI (gb T (Z 2) (lf T (Z 2) (Z 3 + 1))))]) (rest := []) ⟨hx, hb, hml, hown, hts⟩ (c_isDigit l (gb T (Z 2) (lf T (Z 2) (Z 3 + 1)))) (cwS 1 hts (gS (fun _ h => h) ml_X0_142 sm_X0_isDigit ini_X0 co_X0_isDigit) rfl rfl rfl pd_X0_isDigit ⟨Nat.le_of_ble_eq_true rfl, Nat.le_of_ble_eq_true rfl⟩) st_pre rfl rfl hl.1 rfl (lv_room (Nat.le_of_ble_eq_true rfl)) dX0_cutPiece_167 ⟨Nat.zero_le _, Nat.zero_le _⟩)) (fun r_34 (e_35 : r_34 = b2i (isD (gb T (Z 2) (lf T (Z 2) (Z 3 + 1))))) => ?_)
                    subst e_35
                    refine lv_if_eq (tgt := 185) hx hb dX0_cutPiece_170 (by decide) (fun c_36 => ?_) (fun c_36 => ?_)
                    · have c_36 := (b2i_z (isD (gb T (Z 2) (lf T (Z 2) (Z 3 + 1))))).mp c_36
                      refine lv_aload_n hx hb dX0_cutPiece_185 rfl (lv_at hl 3 rfl) ?_
                      refine lv_iload_n hx hb dX0_cutPiece_186 rfl (lv_at hl 2 rfl) ?_
                      refine lv_iload_n hx hb dX0_cutPiece_187 rfl (lv_at hl 0 rfl) ?_
                      refine lv_iload_n hx hb dX0_cutPiece_188 rfl (lv_at hl 1 rfl) ?_
                      have hwH := hw
                      refine lm_calli (va_runV (As := [.int (bI (gb T (Z 2) (Z 3))), .int (bI (gb T (Z 2) (lf T (Z 2) (Z 3 + 1)))), .int (nI (lf T (Z 2) (Z 3 + 1)))]) (rest := []) ⟨hx, hb, hml, hown, hts⟩ (c_cutSign l dC dI cA a0 a1 a2 dK dV A0 s.heap.size Z T K (gb T (Z 2) (Z 3)) (gb T (Z 2) (lf T (Z 2) (Z 3 + 1))) (lf T (Z 2) (Z 3 + 1)) (show Z 2 ≤ 32768 by omega) (show Z 4 < 65536 by omega) (show Z 10 < 2 ^ 29 by omega) (show Z 11 ≤ 1 by omega) (show Z 3 ≤ Z 2 by omega) (show lf T (Z 2) (Z 3 + 1) ≤ Z 2 by omega) (show gb T (Z 2) (lf T (Z 2) (Z 3 + 1)) = gb T (Z 2) (lf T (Z 2) (Z 3 + 1)) by omega)) (cwV 3 hts (gV (fun _ h => h) ml_X0_148 im_X0_cutSign se_X0_cutSign ini_X0 co_X0_cutSign) rfl rfl rfl pd_X0_cutSign ⟨Nat.le_of_ble_eq_true rfl, Nat.le_of_ble_eq_true rfl⟩) (lm_preW hK hP hD hwH) rfl rfl hl.1 rfl (lv_room (Nat.le_of_ble_eq_true rfl)) dX0_cutPiece_189 ⟨Nat.zero_le _, Nat.zero_le _⟩) hD hS hA (fun r_39 u_38 H locs q_37 hP hD hS => ?_)
                      obtain ⟨rfl, rfl⟩ := q_37
                      have hP : va_P (dC, dI) vwCl (lmW cA a0 a1 a2 ((csZ T Z K (gb T (Z 2) (Z 3)) (gb T (Z 2) (lf T (Z 2) (Z 3 + 1))) (lf T (Z 2) (Z 3 + 1))).1, T, (csZ T Z K (gb T (Z 2) (Z 3)) (gb T (Z 2) (lf T (Z 2) (Z 3 + 1))) (lf T (Z 2) (Z 3 + 1))).2.1)) H := hP
                      have hD : va_D A (lmW cA a0 a1 a2 ((csZ T Z K (gb T (Z 2) (Z 3)) (gb T (Z 2) (lf T (Z 2) (Z 3 + 1))) (lf T (Z 2) (Z 3 + 1))).1, T, (csZ T Z K (gb T (Z 2) (Z 3)) (gb T (Z 2) (lf T (Z 2) (Z 3 + 1))) (lf T (Z 2) (Z 3 + 1))).2.1)) := hD
                      have hP : va_P (dC, dI) vwCl (lmW cA a0 a1 a2 ((cpZ T Z K).1, T, (cpZ T Z K).2.1)) H := by rw [cpZ, cpR, if_neg (by omega), if_neg (by rw [c_12]; decide), if_neg (by omega), if_neg (by omega), if_neg (by rw [c_17]; decide), if_neg (fun z => by have := z.1; omega), if_neg (by rw [c_21]; decide), if_neg (fun z => by rcases z with z | z; exact absurd z (by rw [c_24]; decide); exact absurd z.2 (by rw [c_36]; decide))]; exact hP
                      have hD : va_D A (lmW cA a0 a1 a2 ((cpZ T Z K).1, T, (cpZ T Z K).2.1)) := by rw [cpZ, cpR, if_neg (by omega), if_neg (by rw [c_12]; decide), if_neg (by omega), if_neg (by omega), if_neg (by rw [c_17]; decide), if_neg (fun z => by have := z.1; omega), if_neg (by rw [c_21]; decide), if_neg (fun z => by rcases z with z | z; exact absurd z (by rw [c_24]; decide); exact absurd z.2 (by rw [c_36]; decide))]; exact hD
                      exact W.iret (v := nI ((csZ T Z K (gb T (Z 2) (Z 3)) (gb T (Z 2) (lf T (Z 2) (Z 3 + 1))) (lf T (Z 2) (Z 3 + 1))).2.2)) hx hb hr (fun t ht hW => ⟨⟨_, ((cpZ T Z K).1, T, (cpZ T Z K).2.1), rfl, ⟨by rw [cpZ, cpR, if_neg (by omega), if_neg (by rw [c_12]; decide), if_neg (by omega), if_neg (by omega), if_neg (by rw [c_17]; decide), if_neg (fun z => by have := z.1; omega), if_neg (by rw [c_21]; decide), if_neg (fun z => by rcases z with z | z; exact absurd z (by rw [c_24]; decide); exact absurd z.2 (by rw [c_36]; decide))], rfl⟩, by rw [ht]; exact hP, va_K.moved hW.alike hK, hD⟩, hS.F ht⟩) hS.2.2 dX0_cutPiece_192
                    · have c_36 := mt (b2i_z (isD (gb T (Z 2) (lf T (Z 2) (Z 3 + 1))))).mpr c_36
                      refine lv_aload_n hx hb dX0_cutPiece_173 rfl (lv_at hl 3 rfl) ?_
                      refine lv_iconst (v := nI 2) hx hb dX0_cutPiece_174 (by decide) ?_
                      refine lv_aload_n hx hb dX0_cutPiece_175 rfl (lv_at hl 3 rfl) ?_
                      refine lv_iload_n hx hb dX0_cutPiece_176 rfl (lv_at hl 1 rfl) ?_
                      refine lv_iload_n hx hb dX0_cutPiece_177 rfl (lv_at hl 2 rfl) ?_
                      refine vp_callSi (va_Run.run (va_runV (As := [.int (nI (lf T (Z 2) (Z 3 + 1))), .int (bI (gb T (Z 2) (Z 3)))]) (rest := [.int (nI 2), .ref a0]) ⟨hx, hb, hml, hown, hts⟩ (c_numberEnd l dC dI cA a0 a1 a2 Z T K (lf T (Z 2) (Z 3 + 1)) (gb T (Z 2) (Z 3)) (show Z 2 ≤ 32768 by omega) (show lf T (Z 2) (Z 3 + 1) < 2 ^ 30 - 1 by omega)) (cwV 2 hts (gV (fun _ h => h) ml_X0_145 im_X0_numberEnd se_X0_numberEnd ini_X0 co_X0_numberEnd) rfl rfl rfl pd_X0_numberEnd ⟨Nat.le_of_ble_eq_true rfl, Nat.le_of_ble_eq_true rfl⟩) (lm_preR hK hP) rfl rfl hl.1 rfl (lv_room (Nat.le_of_ble_eq_true rfl)) dX0_cutPiece_178 ⟨Nat.zero_le _, Nat.zero_le _⟩)) (fun r_40 (e_41 : r_40 = nI (nuE T (Z 2) (lf T (Z 2) (Z 3 + 1)) (gb T (Z 2) (Z 3)))) => ?_)
                      subst e_41
                      have := nuE_b T (Z 2) (lf T (Z 2) (Z 3 + 1)) (gb T (Z 2) (Z 3))
                      refine lm_calli (va_runV (As := [.int (nI 2), .int (nI (nuE T (Z 2) (lf T (Z 2) (Z 3 + 1)) (gb T (Z 2) (Z 3))))]) (rest := []) ⟨hx, hb, hml, hown, hts⟩ (c_addToken l dC dI cA a0 a1 a2 s.heap.size Z T K 2 (nuE T (Z 2) (lf T (Z 2) (Z 3 + 1)) (gb T (Z 2) (Z 3))) (show Z 2 ≤ 32768 by omega) (show nuE T (Z 2) (lf T (Z 2) (Z 3 + 1)) (gb T (Z 2) (Z 3)) ≤ Z 2 by omega) (show Z 3 ≤ Z 2 by omega) (show Z 4 < 65536 by omega) (show Z 10 < 2 ^ 29 by omega) (show Z 11 ≤ 1 by omega) (show 2 < 16 by omega)) (cwV 2 hts (gV (fun _ h => h) ml_X0_139 im_X0_addToken se_X0_addToken ini_X0 co_X0_addToken) rfl rfl rfl pd_X0_addToken ⟨Nat.le_of_ble_eq_true rfl, Nat.le_of_ble_eq_true rfl⟩) (lm_preS hK hP hD) rfl rfl hl.1 rfl (lv_room (Nat.le_of_ble_eq_true rfl)) dX0_cutPiece_181 ⟨Nat.zero_le _, Nat.zero_le _⟩) hD hS hA (fun r_44 u_43 H locs q_42 hP hD hS => ?_)
                      obtain ⟨rfl, rfl⟩ := q_42
                      have hP : va_P (dC, dI) vwCl (lmW cA a0 a1 a2 ((adZ T Z (nuE T (Z 2) (lf T (Z 2) (Z 3 + 1)) (gb T (Z 2) (Z 3)))), T, (adK T Z K 2 (nuE T (Z 2) (lf T (Z 2) (Z 3 + 1)) (gb T (Z 2) (Z 3)))))) H := hP
                      have hD : va_D A (lmW cA a0 a1 a2 ((adZ T Z (nuE T (Z 2) (lf T (Z 2) (Z 3 + 1)) (gb T (Z 2) (Z 3)))), T, (adK T Z K 2 (nuE T (Z 2) (lf T (Z 2) (Z 3 + 1)) (gb T (Z 2) (Z 3)))))) := hD
                      have hP : va_P (dC, dI) vwCl (lmW cA a0 a1 a2 ((cpZ T Z K).1, T, (cpZ T Z K).2.1)) H := by rw [cpZ, cpR, if_neg (by omega), if_neg (by rw [c_12]; decide), if_neg (by omega), if_neg (by omega), if_neg (by rw [c_17]; decide), if_neg (fun z => by have := z.1; omega), if_neg (by rw [c_21]; decide), if_pos (Or.inr ⟨by omega, by simpa using c_36⟩)]; exact hP
                      have hD : va_D A (lmW cA a0 a1 a2 ((cpZ T Z K).1, T, (cpZ T Z K).2.1)) := by rw [cpZ, cpR, if_neg (by omega), if_neg (by rw [c_12]; decide), if_neg (by omega), if_neg (by omega), if_neg (by rw [c_17]; decide), if_neg (fun z => by have := z.1; omega), if_neg (by rw [c_21]; decide), if_pos (Or.inr ⟨by omega, by simpa using c_36⟩)]; exact hD
                      exact W.iret (v := nI 0) hx hb hr (fun t ht hW => ⟨⟨_, ((cpZ T Z K).1, T, (cpZ T Z K).2.1), rfl, ⟨by rw [cpZ, cpR, if_neg (by omega), if_neg (by rw [c_12]; decide), if_neg (by omega), if_neg (by omega), if_neg (by rw [c_17]; decide), if_neg (fun z => by have := z.1; omega), if_neg (by rw [c_21]; decide), if_pos (Or.inr ⟨by omega, by simpa using c_36⟩)], rfl⟩, by rw [ht]; exact hP, va_K.moved hW.alike hK, hD⟩, hS.F ht⟩) hS.2.2 dX0_cutPiece_184
              · have c_21 := mt (b2i_z (isL (gb T (Z 2) (Z 3)))).mpr c_21
                refine lv_aload_n hx hb dX0_cutPiece_142 rfl (lv_at hl 3 rfl) ?_
                refine lv_iconst (v := nI 1) hx hb dX0_cutPiece_143 (by decide) ?_
                refine lv_aload_n hx hb dX0_cutPiece_144 rfl (lv_at hl 3 rfl) ?_
                refine lv_iload_n hx hb dX0_cutPiece_145 rfl (lv_at hl 1 rfl) ?_
                refine vp_callSi (va_Run.run (va_runV (As := [.int (nI (lf T (Z 2) (Z 3 + 1)))]) (rest := [.int (nI 1), .ref a0]) ⟨hx, hb, hml, hown, hts⟩ (c_nameEnd l dC dI cA a0 a1 a2 Z T K (lf T (Z 2) (Z 3 + 1)) (show Z 2 ≤ 32768 by omega) (show lf T (Z 2) (Z 3 + 1) < 2 ^ 30 - 1 by omega)) (cwV 1 hts (gV (fun _ h => h) ml_X0_136 im_X0_nameEnd se_X0_nameEnd ini_X0 co_X0_nameEnd) rfl rfl rfl pd_X0_nameEnd ⟨Nat.le_of_ble_eq_true rfl, Nat.le_of_ble_eq_true rfl⟩) (lm_preR hK hP) rfl rfl hl.1 rfl (lv_room (Nat.le_of_ble_eq_true rfl)) dX0_cutPiece_146 ⟨Nat.zero_le _, Nat.zero_le _⟩)) (fun r_45 (e_46 : r_45 = nI (nmE T (Z 2) (lf T (Z 2) (Z 3 + 1)))) => ?_)
                subst e_46
                have := nmE_b T (Z 2) (lf T (Z 2) (Z 3 + 1))
                refine lm_calli (va_runV (As := [.int (nI 1), .int (nI (nmE T (Z 2) (lf T (Z 2) (Z 3 + 1))))]) (rest := []) ⟨hx, hb, hml, hown, hts⟩ (c_addToken l dC dI cA a0 a1 a2 s.heap.size Z T K 1 (nmE T (Z 2) (lf T (Z 2) (Z 3 + 1))) (show Z 2 ≤ 32768 by omega) (show nmE T (Z 2) (lf T (Z 2) (Z 3 + 1)) ≤ Z 2 by omega) (show Z 3 ≤ Z 2 by omega) (show Z 4 < 65536 by omega) (show Z 10 < 2 ^ 29 by omega) (show Z 11 ≤ 1 by omega) (show 1 < 16 by omega)) (cwV 2 hts (gV (fun _ h => h) ml_X0_139 im_X0_addToken se_X0_addToken ini_X0 co_X0_addToken) rfl rfl rfl pd_X0_addToken ⟨Nat.le_of_ble_eq_true rfl, Nat.le_of_ble_eq_true rfl⟩) (lm_preS hK hP hD) rfl rfl hl.1 rfl (lv_room (Nat.le_of_ble_eq_true rfl)) dX0_cutPiece_149 ⟨Nat.zero_le _, Nat.zero_le _⟩) hD hS hA (fun r_49 u_48 H locs q_47 hP hD hS => ?_)
                obtain ⟨rfl, rfl⟩ := q_47
                have hP : va_P (dC, dI) vwCl (lmW cA a0 a1 a2 ((adZ T Z (nmE T (Z 2) (lf T (Z 2) (Z 3 + 1)))), T, (adK T Z K 1 (nmE T (Z 2) (lf T (Z 2) (Z 3 + 1)))))) H := hP
                have hD : va_D A (lmW cA a0 a1 a2 ((adZ T Z (nmE T (Z 2) (lf T (Z 2) (Z 3 + 1)))), T, (adK T Z K 1 (nmE T (Z 2) (lf T (Z 2) (Z 3 + 1)))))) := hD
                have hP : va_P (dC, dI) vwCl (lmW cA a0 a1 a2 ((cpZ T Z K).1, T, (cpZ T Z K).2.1)) H := by rw [cpZ, cpR, if_neg (by omega), if_neg (by rw [c_12]; decide), if_neg (by omega), if_neg (by omega), if_neg (by rw [c_17]; decide), if_neg (fun z => by have := z.1; omega), if_pos (by simpa using c_21)]; exact hP
                have hD : va_D A (lmW cA a0 a1 a2 ((cpZ T Z K).1, T, (cpZ T Z K).2.1)) := by rw [cpZ, cpR, if_neg (by omega), if_neg (by rw [c_12]; decide), if_neg (by omega), if_neg (by omega), if_neg (by rw [c_17]; decide), if_neg (fun z => by have := z.1; omega), if_pos (by simpa using c_21)]; exact hD
                exact W.iret (v := nI 0) hx hb hr (fun t ht hW => ⟨⟨_, ((cpZ T Z K).1, T, (cpZ T Z K).2.1), rfl, ⟨by rw [cpZ, cpR, if_neg (by omega), if_neg (by rw [c_12]; decide), if_neg (by omega), if_neg (by omega), if_neg (by rw [c_17]; decide), if_neg (fun z => by have := z.1; omega), if_pos (by simpa using c_21)], rfl⟩, by rw [ht]; exact hP, va_K.moved hW.alike hK, hD⟩, hS.F ht⟩) hS.2.2 dX0_cutPiece_152
            · have c_18 := (bI_eqN (by omega)).mp c_18
              refine lv_iload_n hx hb dX0_cutPiece_121 rfl (lv_at hl 0 rfl) ?_
              refine vp_callSi (va_Run.run (va_runS (As := [.int (bI (gb T (Z 2) (lf T (Z 2) (Z 3 + 1))))]) (rest := []) ⟨hx, hb, hml, hown, hts⟩ (c_isQuote l (gb T (Z 2) (lf T (Z 2) (Z 3 + 1)))) (cwS 1 hts (gS (fun _ h => h) ml_X0_124 sm_X0_isQuote ini_X0 co_X0_isQuote) rfl rfl rfl pd_X0_isQuote ⟨Nat.le_of_ble_eq_true rfl, Nat.le_of_ble_eq_true rfl⟩) st_pre rfl rfl hl.1 rfl (lv_room (Nat.le_of_ble_eq_true rfl)) dX0_cutPiece_122 ⟨Nat.zero_le _, Nat.zero_le _⟩)) (fun r_50 (e_51 : r_50 = b2i (isQ (gb T (Z 2) (lf T (Z 2) (Z 3 + 1))))) => ?_)
              subst e_51
              refine lv_if_eq (tgt := 135) hx hb dX0_cutPiece_125 (by decide) (fun c_52 => ?_) (fun c_52 => ?_)
              · have c_52 := (b2i_z (isQ (gb T (Z 2) (lf T (Z 2) (Z 3 + 1))))).mp c_52
                refine lv_iload_n hx hb dX0_cutPiece_135 rfl (lv_at hl 2 rfl) ?_
                refine vp_callSi (va_Run.run (va_runS (As := [.int (bI (gb T (Z 2) (Z 3)))]) (rest := []) ⟨hx, hb, hml, hown, hts⟩ (c_isLetter l (gb T (Z 2) (Z 3))) (cwS 1 hts (gS (fun _ h => h) ml_X0_133 sm_X0_isLetter ini_X0 co_X0_isLetter) rfl rfl rfl pd_X0_isLetter ⟨Nat.le_of_ble_eq_true rfl, Nat.le_of_ble_eq_true rfl⟩) st_pre rfl rfl hl.1 rfl (lv_room (Nat.le_of_ble_eq_true rfl)) dX0_cutPiece_136 ⟨Nat.zero_le _, Nat.zero_le _⟩)) (fun r_53 (e_54 : r_53 = b2i (isL (gb T (Z 2) (Z 3)))) => ?_)
                subst e_54
                refine lv_if_eq (tgt := 153) hx hb dX0_cutPiece_139 (by decide) (fun c_55 => ?_) (fun c_55 => ?_)
                · have c_55 := (b2i_z (isL (gb T (Z 2) (Z 3)))).mp c_55
                  refine lv_iload_n hx hb dX0_cutPiece_153 rfl (lv_at hl 2 rfl) ?_
                  refine vp_callSi (va_Run.run (va_runS (As := [.int (bI (gb T (Z 2) (Z 3)))]) (rest := []) ⟨hx, hb, hml, hown, hts⟩ (c_isDigit l (gb T (Z 2) (Z 3))) (cwS 1 hts (gS (fun _ h => h) ml_X0_142 sm_X0_isDigit ini_X0 co_X0_isDigit) rfl rfl rfl pd_X0_isDigit ⟨Nat.le_of_ble_eq_true rfl, Nat.le_of_ble_eq_true rfl⟩) st_pre rfl rfl hl.1 rfl (lv_room (Nat.le_of_ble_eq_true rfl)) dX0_cutPiece_154 ⟨Nat.zero_le _, Nat.zero_le _⟩)) (fun r_56 (e_57 : r_56 = b2i (isD (gb T (Z 2) (Z 3)))) => ?_)
                  subst e_57
                  refine lv_if_ne (tgt := 173) hx hb dX0_cutPiece_157 (by decide) (fun c_58 => ?_) (fun c_58 => ?_)
                  · have c_58 := mt (b2i_z (isD (gb T (Z 2) (Z 3)))).mpr c_58
                    refine lv_aload_n hx hb dX0_cutPiece_173 rfl (lv_at hl 3 rfl) ?_
                    refine lv_iconst (v := nI 2) hx hb dX0_cutPiece_174 (by decide) ?_
                    refine lv_aload_n hx hb dX0_cutPiece_175 rfl (lv_at hl 3 rfl) ?_
                    refine lv_iload_n hx hb dX0_cutPiece_176 rfl (lv_at hl 1 rfl) ?_
                    refine lv_iload_n hx hb dX0_cutPiece_177 rfl (lv_at hl 2 rfl) ?_
                    refine vp_callSi (va_Run.run (va_runV (As := [.int (nI (lf T (Z 2) (Z 3 + 1))), .int (bI (gb T (Z 2) (Z 3)))]) (rest := [.int (nI 2), .ref a0]) ⟨hx, hb, hml, hown, hts⟩ (c_numberEnd l dC dI cA a0 a1 a2 Z T K (lf T (Z 2) (Z 3 + 1)) (gb T (Z 2) (Z 3)) (show Z 2 ≤ 32768 by omega) (show lf T (Z 2) (Z 3 + 1) < 2 ^ 30 - 1 by omega)) (cwV 2 hts (gV (fun _ h => h) ml_X0_145 im_X0_numberEnd se_X0_numberEnd ini_X0 co_X0_numberEnd) rfl rfl rfl pd_X0_numberEnd ⟨Nat.le_of_ble_eq_true rfl, Nat.le_of_ble_eq_true rfl⟩) (lm_preR hK hP) rfl rfl hl.1 rfl (lv_room (Nat.le_of_ble_eq_true rfl)) dX0_cutPiece_178 ⟨Nat.zero_le _, Nat.zero_le _⟩)) (fun r_59 (e_60 : r_59 = nI (nuE T (Z 2) (lf T (Z 2) (Z 3 + 1)) (gb T (Z 2) (Z 3)))) => ?_)
                    subst e_60
                    have := nuE_b T (Z 2) (lf T (Z 2) (Z 3 + 1)) (gb T (Z 2) (Z 3))
                    refine lm_calli (va_runV (As := [.int (nI 2), .int (nI (nuE T (Z 2) (lf T (Z 2) (Z 3 + 1)) (gb T (Z 2) (Z 3))))]) (rest := []) ⟨hx, hb, hml, hown, hts⟩ (c_addToken l dC dI cA a0 a1 a2 s.heap.size Z T K 2 (nuE T (Z 2) (lf T (Z 2) (Z 3 + 1)) (gb T (Z 2) (Z 3))) (show Z 2 ≤ 32768 by omega) (show nuE T (Z 2) (lf T (Z 2) (Z 3 + 1)) (gb T (Z 2) (Z 3)) ≤ Z 2 by omega) (show Z 3 ≤ Z 2 by omega) (show Z 4 < 65536 by omega) (show Z 10 < 2 ^ 29 by omega) (show Z 11 ≤ 1 by omega) (show 2 < 16 by omega)) (cwV 2 hts (gV (fun _ h => h) ml_X0_139 im_X0_addToken se_X0_addToken ini_X0 co_X0_addToken) rfl rfl rfl pd_X0_addToken ⟨Nat.le_of_ble_eq_true rfl, Nat.le_of_ble_eq_true rfl⟩) (lm_preS hK hP hD) rfl rfl hl.1 rfl (lv_room (Nat.le_of_ble_eq_true rfl)) dX0_cutPiece_181 ⟨Nat.zero_le _, Nat.zero_le _⟩) hD hS hA (fun r_63 u_62 H locs q_61 hP hD hS => ?_)
                    obtain ⟨rfl, rfl⟩ := q_61
                    have hP : va_P (dC, dI) vwCl (lmW cA a0 a1 a2 ((adZ T Z (nuE T (Z 2) (lf T (Z 2) (Z 3 + 1)) (gb T (Z 2) (Z 3)))), T, (adK T Z K 2 (nuE T (Z 2) (lf T (Z 2) (Z 3 + 1)) (gb T (Z 2) (Z 3)))))) H := hP
                    have hD : va_D A (lmW cA a0 a1 a2 ((adZ T Z (nuE T (Z 2) (lf T (Z 2) (Z 3 + 1)) (gb T (Z 2) (Z 3)))), T, (adK T Z K 2 (nuE T (Z 2) (lf T (Z 2) (Z 3 + 1)) (gb T (Z 2) (Z 3)))))) := hD
                    have hP : va_P (dC, dI) vwCl (lmW cA a0 a1 a2 ((cpZ T Z K).1, T, (cpZ T Z K).2.1)) H := by rw [cpZ, cpR, if_neg (by omega), if_neg (by rw [c_12]; decide), if_neg (by omega), if_neg (by omega), if_neg (by rw [c_17]; decide), if_neg (fun z => absurd z.2 (by rw [c_52]; decide)), if_neg (by rw [c_55]; decide), if_pos (Or.inl (by simpa using c_58))]; exact hP
                    have hD : va_D A (lmW cA a0 a1 a2 ((cpZ T Z K).1, T, (cpZ T Z K).2.1)) := by rw [cpZ, cpR, if_neg (by omega), if_neg (by rw [c_12]; decide), if_neg (by omega), if_neg (by omega), if_neg (by rw [c_17]; decide), if_neg (fun z => absurd z.2 (by rw [c_52]; decide)), if_neg (by rw [c_55]; decide), if_pos (Or.inl (by simpa using c_58))]; exact hD
                    exact W.iret (v := nI 0) hx hb hr (fun t ht hW => ⟨⟨_, ((cpZ T Z K).1, T, (cpZ T Z K).2.1), rfl, ⟨by rw [cpZ, cpR, if_neg (by omega), if_neg (by rw [c_12]; decide), if_neg (by omega), if_neg (by omega), if_neg (by rw [c_17]; decide), if_neg (fun z => absurd z.2 (by rw [c_52]; decide)), if_neg (by rw [c_55]; decide), if_pos (Or.inl (by simpa using c_58))], rfl⟩, by rw [ht]; exact hP, va_K.moved hW.alike hK, hD⟩, hS.F ht⟩) hS.2.2 dX0_cutPiece_184
                  · have c_58 := (b2i_z (isD (gb T (Z 2) (Z 3)))).mp c_58
                    refine lv_iload_n hx hb dX0_cutPiece_160 rfl (lv_at hl 2 rfl) ?_
                    refine lv_bipush (v := nI 46) hx hb dX0_cutPiece_161 (by decide) ?_
                    refine lv_icmp_ne (tgt := 185) hx hb dX0_cutPiece_163 (by decide) (fun c_64 => ?_) (fun c_64 => ?_)
                    · have c_64 := mt (bI_eqN (by omega)).mpr c_64
                      refine lv_aload_n hx hb dX0_cutPiece_185 rfl (lv_at hl 3 rfl) ?_
                      refine lv_iload_n hx hb dX0_cutPiece_186 rfl (lv_at hl 2 rfl) ?_
                      refine lv_iload_n hx hb dX0_cutPiece_187 rfl (lv_at hl 0 rfl) ?_
                      refine lv_iload_n hx hb dX0_cutPiece_188 rfl (lv_at hl 1 rfl) ?_
                      have hwH := hw
                      refine lm_calli (va_runV (As := [.int (bI (gb T (Z 2) (Z 3))), .int (bI (gb T (Z 2) (lf T (Z 2) (Z 3 + 1)))), .int (nI (lf T (Z 2) (Z 3 + 1)))]) (rest := []) ⟨hx, hb, hml, hown, hts⟩ (c_cutSign l dC dI cA a0 a1 a2 dK dV A0 s.heap.size Z T K (gb T (Z 2) (Z 3)) (gb T (Z 2) (lf T (Z 2) (Z 3 + 1))) (lf T (Z 2) (Z 3 + 1)) (show Z 2 ≤ 32768 by omega) (show Z 4 < 65536 by omega) (show Z 10 < 2 ^ 29 by omega) (show Z 11 ≤ 1 by omega) (show Z 3 ≤ Z 2 by omega) (show lf T (Z 2) (Z 3 + 1) ≤ Z 2 by omega) (show gb T (Z 2) (lf T (Z 2) (Z 3 + 1)) = gb T (Z 2) (lf T (Z 2) (Z 3 + 1)) by omega)) (cwV 3 hts (gV (fun _ h => h) ml_X0_148 im_X0_cutSign se_X0_cutSign ini_X0 co_X0_cutSign) rfl rfl rfl pd_X0_cutSign ⟨Nat.le_of_ble_eq_true rfl, Nat.le_of_ble_eq_true rfl⟩) (lm_preW hK hP hD hwH) rfl rfl hl.1 rfl (lv_room (Nat.le_of_ble_eq_true rfl)) dX0_cutPiece_189 ⟨Nat.zero_le _, Nat.zero_le _⟩) hD hS hA (fun r_67 u_66 H locs q_65 hP hD hS => ?_)
                      obtain ⟨rfl, rfl⟩ := q_65
                      have hP : va_P (dC, dI) vwCl (lmW cA a0 a1 a2 ((csZ T Z K (gb T (Z 2) (Z 3)) (gb T (Z 2) (lf T (Z 2) (Z 3 + 1))) (lf T (Z 2) (Z 3 + 1))).1, T, (csZ T Z K (gb T (Z 2) (Z 3)) (gb T (Z 2) (lf T (Z 2) (Z 3 + 1))) (lf T (Z 2) (Z 3 + 1))).2.1)) H := hP
                      have hD : va_D A (lmW cA a0 a1 a2 ((csZ T Z K (gb T (Z 2) (Z 3)) (gb T (Z 2) (lf T (Z 2) (Z 3 + 1))) (lf T (Z 2) (Z 3 + 1))).1, T, (csZ T Z K (gb T (Z 2) (Z 3)) (gb T (Z 2) (lf T (Z 2) (Z 3 + 1))) (lf T (Z 2) (Z 3 + 1))).2.1)) := hD
                      have hP : va_P (dC, dI) vwCl (lmW cA a0 a1 a2 ((cpZ T Z K).1, T, (cpZ T Z K).2.1)) H := by rw [cpZ, cpR, if_neg (by omega), if_neg (by rw [c_12]; decide), if_neg (by omega), if_neg (by omega), if_neg (by rw [c_17]; decide), if_neg (fun z => absurd z.2 (by rw [c_52]; decide)), if_neg (by rw [c_55]; decide), if_neg (fun z => by rcases z with z | z; exact absurd z (by rw [c_58]; decide); have := z.1; omega)]; exact hP
                      have hD : va_D A (lmW cA a0 a1 a2 ((cpZ T Z K).1, T, (cpZ T Z K).2.1)) := by rw [cpZ, cpR, if_neg (by omega), if_neg (by rw [c_12]; decide), if_neg (by omega), if_neg (by omega), if_neg (by rw [c_17]; decide), if_neg (fun z => absurd z.2 (by rw [c_52]; decide)), if_neg (by rw [c_55]; decide), if_neg (fun z => by rcases z with z | z; exact absurd z (by rw [c_58]; decide); have := z.1; omega)]; exact hD
                      exact W.iret (v := nI ((csZ T Z K (gb T (Z 2) (Z 3)) (gb T (Z 2) (lf T (Z 2) (Z 3 + 1))) (lf T (Z 2) (Z 3 + 1))).2.2)) hx hb hr (fun t ht hW => ⟨⟨_, ((cpZ T Z K).1, T, (cpZ T Z K).2.1), rfl, ⟨by rw [cpZ, cpR, if_neg (by omega), if_neg (by rw [c_12]; decide), if_neg (by omega), if_neg (by omega), if_neg (by rw [c_17]; decide), if_neg (fun z => absurd z.2 (by rw [c_52]; decide)), if_neg (by rw [c_55]; decide), if_neg (fun z => by rcases z with z | z; exact absurd z (by rw [c_58]; decide); have := z.1; omega)], rfl⟩, by rw [ht]; exact hP, va_K.moved hW.alike hK, hD⟩, hS.F ht⟩) hS.2.2 dX0_cutPiece_192
                    · have c_64 := (bI_eqN (by omega)).mp c_64
                      refine lv_iload_n hx hb dX0_cutPiece_166 rfl (lv_at hl 0 rfl) ?_
                      refine vp_callSi (va_Run.run (va_runS (As := [.int (bI (gb T (Z 2) (lf T (Z 2) (Z 3 + 1))))]) (rest := []) ⟨hx, hb, hml, hown, hts⟩ (c_isDigit l (gb T (Z 2) (lf T (Z 2) (Z 3 + 1)))) (cwS 1 hts (gS (fun _ h => h) ml_X0_142 sm_X0_isDigit ini_X0 co_X0_isDigit) rfl rfl rfl pd_X0_isDigit ⟨Nat.le_of_ble_eq_true rfl, Nat.le_of_ble_eq_true rfl⟩) st_pre rfl rfl hl.1 rfl (lv_room (Nat.le_of_ble_eq_true rfl)) dX0_cutPiece_167 ⟨Nat.zero_le _, Nat.zero_le _⟩)) (fun r_68 (e_69 : r_68 = b2i (isD (gb T (Z 2) (lf T (Z 2) (Z 3 + 1))))) => ?_)
                      subst e_69
                      refine lv_if_eq (tgt := 185) hx hb dX0_cutPiece_170 (by decide) (fun c_70 => ?_) (fun c_70 => ?_)
                      · have c_70 := (b2i_z (isD (gb T (Z 2) (lf T (Z 2) (Z 3 + 1))))).mp c_70
                        refine lv_aload_n hx hb dX0_cutPiece_185 rfl (lv_at hl 3 rfl) ?_
                        refine lv_iload_n hx hb dX0_cutPiece_186 rfl (lv_at hl 2 rfl) ?_
                        refine lv_iload_n hx hb dX0_cutPiece_187 rfl (lv_at hl 0 rfl) ?_
                        refine lv_iload_n hx hb dX0_cutPiece_188 rfl (lv_at hl 1 rfl) ?_
                        have hwH := hw
                        refine lm_calli (va_runV (As := [.int (bI (gb T (Z 2) (Z 3))), .int (bI (gb T (Z 2) (lf T (Z 2) (Z 3 + 1)))), .int (nI (lf T (Z 2) (Z 3 + 1)))]) (rest := []) ⟨hx, hb, hml, hown, hts⟩ (c_cutSign l dC dI cA a0 a1 a2 dK dV A0 s.heap.size Z T K (gb T (Z 2) (Z 3)) (gb T (Z 2) (lf T (Z 2) (Z 3 + 1))) (lf T (Z 2) (Z 3 + 1)) (show Z 2 ≤ 32768 by omega) (show Z 4 < 65536 by omega) (show Z 10 < 2 ^ 29 by omega) (show Z 11 ≤ 1 by omega) (show Z 3 ≤ Z 2 by omega) (show lf T (Z 2) (Z 3 + 1) ≤ Z 2 by omega) (show gb T (Z 2) (lf T (Z 2) (Z 3 + 1)) = gb T (Z 2) (lf T (Z 2) (Z 3 + 1)) by omega)) (cwV 3 hts (gV (fun _ h => h) ml_X0_148 im_X0_cutSign se_X0_cutSign ini_X0 co_X0_cutSign) rfl rfl rfl pd_X0_cutSign ⟨Nat.le_of_ble_eq_true rfl, Nat.le_of_ble_eq_true rfl⟩) (lm_preW hK hP hD hwH) rfl rfl hl.1 rfl (lv_room (Nat.le_of_ble_eq_true rfl)) dX0_cutPiece_189 ⟨Nat.zero_le _, Nat.zero_le _⟩) hD hS hA (fun r_73 u_72 H locs q_71 hP hD hS => ?_)
                        obtain ⟨rfl, rfl⟩ := q_71
                        have hP : va_P (dC, dI) vwCl (lmW cA a0 a1 a2 ((csZ T Z K (gb T (Z 2) (Z 3)) (gb T (Z 2) (lf T (Z 2) (Z 3 + 1))) (lf T (Z 2) (Z 3 + 1))).1, T, (csZ T Z K (gb T (Z 2) (Z 3)) (gb T (Z 2) (lf T (Z 2) (Z 3 + 1))) (lf T (Z 2) (Z 3 + 1))).2.1)) H := hP
                        have hD : va_D A (lmW cA a0 a1 a2 ((csZ T Z K (gb T (Z 2) (Z 3)) (gb T (Z 2) (lf T (Z 2) (Z 3 + 1))) (lf T (Z 2) (Z 3 + 1))).1, T, (csZ T Z K (gb T (Z 2) (Z 3)) (gb T (Z 2) (lf T (Z 2) (Z 3 + 1))) (lf T (Z 2) (Z 3 + 1))).2.1)) := hD
                        have hP : va_P (dC, dI) vwCl (lmW cA a0 a1 a2 ((cpZ T Z K).1, T, (cpZ T Z K).2.1)) H := by rw [cpZ, cpR, if_neg (by omega), if_neg (by rw [c_12]; decide), if_neg (by omega), if_neg (by omega), if_neg (by rw [c_17]; decide), if_neg (fun z => absurd z.2 (by rw [c_52]; decide)), if_neg (by rw [c_55]; decide), if_neg (fun z => by rcases z with z | z; exact absurd z (by rw [c_58]; decide); exact absurd z.2 (by rw [c_70]; decide))]; exact hP
                        have hD : va_D A (lmW cA a0 a1 a2 ((cpZ T Z K).1, T, (cpZ T Z K).2.1)) := by rw [cpZ, cpR, if_neg (by omega), if_neg (by rw [c_12]; decide), if_neg (by omega), if_neg (by omega), if_neg (by rw [c_17]; decide), if_neg (fun z => absurd z.2 (by rw [c_52]; decide)), if_neg (by rw [c_55]; decide), if_neg (fun z => by rcases z with z | z; exact absurd z (by rw [c_58]; decide); exact absurd z.2 (by rw [c_70]; decide))]; exact hD
                        exact W.iret (v := nI ((csZ T Z K (gb T (Z 2) (Z 3)) (gb T (Z 2) (lf T (Z 2) (Z 3 + 1))) (lf T (Z 2) (Z 3 + 1))).2.2)) hx hb hr (fun t ht hW => ⟨⟨_, ((cpZ T Z K).1, T, (cpZ T Z K).2.1), rfl, ⟨by rw [cpZ, cpR, if_neg (by omega), if_neg (by rw [c_12]; decide), if_neg (by omega), if_neg (by omega), if_neg (by rw [c_17]; decide), if_neg (fun z => absurd z.2 (by rw [c_52]; decide)), if_neg (by rw [c_55]; decide), if_neg (fun z => by rcases z with z | z; exact absurd z (by rw [c_58]; decide); exact absurd z.2 (by rw [c_70]; decide))], rfl⟩, by rw [ht]; exact hP, va_K.moved hW.alike hK, hD⟩, hS.F ht⟩) hS.2.2 dX0_cutPiece_192
                      · have c_70 := mt (b2i_z (isD (gb T (Z 2) (lf T (Z 2) (Z 3 + 1))))).mpr c_70
                        refine lv_aload_n hx hb dX0_cutPiece_173 rfl (lv_at hl 3 rfl) ?_
                        refine lv_iconst (v := nI 2) hx hb dX0_cutPiece_174 (by decide) ?_
                        refine lv_aload_n hx hb dX0_cutPiece_175 rfl (lv_at hl 3 rfl) ?_
                        refine lv_iload_n hx hb dX0_cutPiece_176 rfl (lv_at hl 1 rfl) ?_
                        refine lv_iload_n hx hb dX0_cutPiece_177 rfl (lv_at hl 2 rfl) ?_
                        refine vp_callSi (va_Run.run (va_runV (As := [.int (nI (lf T (Z 2) (Z 3 + 1))), .int (bI (gb T (Z 2) (Z 3)))]) (rest := [.int (nI 2), .ref a0]) ⟨hx, hb, hml, hown, hts⟩ (c_numberEnd l dC dI cA a0 a1 a2 Z T K (lf T (Z 2) (Z 3 + 1)) (gb T (Z 2) (Z 3)) (show Z 2 ≤ 32768 by omega) (show lf T (Z 2) (Z 3 + 1) < 2 ^ 30 - 1 by omega)) (cwV 2 hts (gV (fun _ h => h) ml_X0_145 im_X0_numberEnd se_X0_numberEnd ini_X0 co_X0_numberEnd) rfl rfl rfl pd_X0_numberEnd ⟨Nat.le_of_ble_eq_true rfl, Nat.le_of_ble_eq_true rfl⟩) (lm_preR hK hP) rfl rfl hl.1 rfl (lv_room (Nat.le_of_ble_eq_true rfl)) dX0_cutPiece_178 ⟨Nat.zero_le _, Nat.zero_le _⟩)) (fun r_74 (e_75 : r_74 = nI (nuE T (Z 2) (lf T (Z 2) (Z 3 + 1)) (gb T (Z 2) (Z 3)))) => ?_)
                        subst e_75
                        have := nuE_b T (Z 2) (lf T (Z 2) (Z 3 + 1)) (gb T (Z 2) (Z 3))
                        refine lm_calli (va_runV (As := [.int (nI 2), .int (nI (nuE T (Z 2) (lf T (Z 2) (Z 3 + 1)) (gb T (Z 2) (Z 3))))]) (rest := []) ⟨hx, hb, hml, hown, hts⟩ (c_addToken l dC dI cA a0 a1 a2 s.heap.size Z T K 2 (nuE T (Z 2) (lf T (Z 2) (Z 3 + 1)) (gb T (Z 2) (Z 3))) (show Z 2 ≤ 32768 by omega) (show nuE T (Z 2) (lf T (Z 2) (Z 3 + 1)) (gb T (Z 2) (Z 3)) ≤ Z 2 by omega) (show Z 3 ≤ Z 2 by omega) (show Z 4 < 65536 by omega) (show Z 10 < 2 ^ 29 by omega) (show Z 11 ≤ 1 by omega) (show 2 < 16 by omega)) (cwV 2 hts (gV (fun _ h => h) ml_X0_139 im_X0_addToken se_X0_addToken ini_X0 co_X0_addToken) rfl rfl rfl pd_X0_addToken ⟨Nat.le_of_ble_eq_true rfl, Nat.le_of_ble_eq_true rfl⟩) (lm_preS hK hP hD) rfl rfl hl.1 rfl (lv_room (Nat.le_of_ble_eq_true rfl)) dX0_cutPiece_181 ⟨Nat.zero_le _, Nat.zero_le _⟩) hD hS hA (fun r_78 u_77 H locs q_76 hP hD hS => ?_)
                        obtain ⟨rfl, rfl⟩ := q_76
                        have hP : va_P (dC, dI) vwCl (lmW cA a0 a1 a2 ((adZ T Z (nuE T (Z 2) (lf T (Z 2) (Z 3 + 1)) (gb T (Z 2) (Z 3)))), T, (adK T Z K 2 (nuE T (Z 2) (lf T (Z 2) (Z 3 + 1)) (gb T (Z 2) (Z 3)))))) H := hP
                        have hD : va_D A (lmW cA a0 a1 a2 ((adZ T Z (nuE T (Z 2) (lf T (Z 2) (Z 3 + 1)) (gb T (Z 2) (Z 3)))), T, (adK T Z K 2 (nuE T (Z 2) (lf T (Z 2) (Z 3 + 1)) (gb T (Z 2) (Z 3)))))) := hD
                        have hP : va_P (dC, dI) vwCl (lmW cA a0 a1 a2 ((cpZ T Z K).1, T, (cpZ T Z K).2.1)) H := by rw [cpZ, cpR, if_neg (by omega), if_neg (by rw [c_12]; decide), if_neg (by omega), if_neg (by omega), if_neg (by rw [c_17]; decide), if_neg (fun z => absurd z.2 (by rw [c_52]; decide)), if_neg (by rw [c_55]; decide), if_pos (Or.inr ⟨by omega, by simpa using c_70⟩)]; exact hP
                        have hD : va_D A (lmW cA a0 a1 a2 ((cpZ T Z K).1, T, (cpZ T Z K).2.1)) := by rw [cpZ, cpR, if_neg (by omega), if_neg (by rw [c_12]; decide), if_neg (by omega), if_neg (by omega), if_neg (by rw [c_17]; decide), if_neg (fun z => absurd z.2 (by rw [c_52]; decide)), if_neg (by rw [c_55]; decide), if_pos (Or.inr ⟨by omega, by simpa using c_70⟩)]; exact hD
                        exact W.iret (v := nI 0) hx hb hr (fun t ht hW => ⟨⟨_, ((cpZ T Z K).1, T, (cpZ T Z K).2.1), rfl, ⟨by rw [cpZ, cpR, if_neg (by omega), if_neg (by rw [c_12]; decide), if_neg (by omega), if_neg (by omega), if_neg (by rw [c_17]; decide), if_neg (fun z => absurd z.2 (by rw [c_52]; decide)), if_neg (by rw [c_55]; decide), if_pos (Or.inr ⟨by omega, by simpa using c_70⟩)], rfl⟩, by rw [ht]; exact hP, va_K.moved hW.alike hK, hD⟩, hS.F ht⟩) hS.2.2 dX0_cutPiece_184
                · have c_55 := mt (b2i_z (isL (gb T (Z 2) (Z 3)))).mpr c_55
                  refine lv_aload_n hx hb dX0_cutPiece_142 rfl (lv_at hl 3 rfl) ?_
                  refine lv_iconst (v := nI 1) hx hb dX0_cutPiece_143 (by decide) ?_
                  refine lv_aload_n hx hb dX0_cutPiece_144 rfl (lv_at hl 3 rfl) ?_
                  refine lv_iload_n hx hb dX0_cutPiece_145 rfl (lv_at hl 1 rfl) ?_
                  refine vp_callSi (va_Run.run (va_runV (As := [.int (nI (lf T (Z 2) (Z 3 + 1)))]) (rest := [.int (nI 1), .ref a0]) ⟨hx, hb, hml, hown, hts⟩ (c_nameEnd l dC dI cA a0 a1 a2 Z T K (lf T (Z 2) (Z 3 + 1)) (show Z 2 ≤ 32768 by omega) (show lf T (Z 2) (Z 3 + 1) < 2 ^ 30 - 1 by omega)) (cwV 1 hts (gV (fun _ h => h) ml_X0_136 im_X0_nameEnd se_X0_nameEnd ini_X0 co_X0_nameEnd) rfl rfl rfl pd_X0_nameEnd ⟨Nat.le_of_ble_eq_true rfl, Nat.le_of_ble_eq_true rfl⟩) (lm_preR hK hP) rfl rfl hl.1 rfl (lv_room (Nat.le_of_ble_eq_true rfl)) dX0_cutPiece_146 ⟨Nat.zero_le _, Nat.zero_le _⟩)) (fun r_79 (e_80 : r_79 = nI (nmE T (Z 2) (lf T (Z 2) (Z 3 + 1)))) => ?_)
                  subst e_80
                  have := nmE_b T (Z 2) (lf T (Z 2) (Z 3 + 1))
                  refine lm_calli (va_runV (As := [.int (nI 1), .int (nI (nmE T (Z 2) (lf T (Z 2) (Z 3 + 1))))]) (rest := []) ⟨hx, hb, hml, hown, hts⟩ (c_addToken l dC dI cA a0 a1 a2 s.heap.size Z T K 1 (nmE T (Z 2) (lf T (Z 2) (Z 3 + 1))) (show Z 2 ≤ 32768 by omega) (show nmE T (Z 2) (lf T (Z 2) (Z 3 + 1)) ≤ Z 2 by omega) (show Z 3 ≤ Z 2 by omega) (show Z 4 < 65536 by omega) (show Z 10 < 2 ^ 29 by omega) (show Z 11 ≤ 1 by omega) (show 1 < 16 by omega)) (cwV 2 hts (gV (fun _ h => h) ml_X0_139 im_X0_addToken se_X0_addToken ini_X0 co_X0_addToken) rfl rfl rfl pd_X0_addToken ⟨Nat.le_of_ble_eq_true rfl, Nat.le_of_ble_eq_true rfl⟩) (lm_preS hK hP hD) rfl rfl hl.1 rfl (lv_room (Nat.le_of_ble_eq_true rfl)) dX0_cutPiece_149 ⟨Nat.zero_le _, Nat.zero_le _⟩) hD hS hA (fun r_83 u_82 H locs q_81 hP hD hS => ?_)
                  obtain ⟨rfl, rfl⟩ := q_81
                  have hP : va_P (dC, dI) vwCl (lmW cA a0 a1 a2 ((adZ T Z (nmE T (Z 2) (lf T (Z 2) (Z 3 + 1)))), T, (adK T Z K 1 (nmE T (Z 2) (lf T (Z 2) (Z 3 + 1)))))) H := hP
                  have hD : va_D A (lmW cA a0 a1 a2 ((adZ T Z (nmE T (Z 2) (lf T (Z 2) (Z 3 + 1)))), T, (adK T Z K 1 (nmE T (Z 2) (lf T (Z 2) (Z 3 + 1)))))) := hD
                  have hP : va_P (dC, dI) vwCl (lmW cA a0 a1 a2 ((cpZ T Z K).1, T, (cpZ T Z K).2.1)) H := by rw [cpZ, cpR, if_neg (by omega), if_neg (by rw [c_12]; decide), if_neg (by omega), if_neg (by omega), if_neg (by rw [c_17]; decide), if_neg (fun z => absurd z.2 (by rw [c_52]; decide)), if_pos (by simpa using c_55)]; exact hP
                  have hD : va_D A (lmW cA a0 a1 a2 ((cpZ T Z K).1, T, (cpZ T Z K).2.1)) := by rw [cpZ, cpR, if_neg (by omega), if_neg (by rw [c_12]; decide), if_neg (by omega), if_neg (by omega), if_neg (by rw [c_17]; decide), if_neg (fun z => absurd z.2 (by rw [c_52]; decide)), if_pos (by simpa using c_55)]; exact hD
                  exact W.iret (v := nI 0) hx hb hr (fun t ht hW => ⟨⟨_, ((cpZ T Z K).1, T, (cpZ T Z K).2.1), rfl, ⟨by rw [cpZ, cpR, if_neg (by omega), if_neg (by rw [c_12]; decide), if_neg (by omega), if_neg (by omega), if_neg (by rw [c_17]; decide), if_neg (fun z => absurd z.2 (by rw [c_52]; decide)), if_pos (by simpa using c_55)], rfl⟩, by rw [ht]; exact hP, va_K.moved hW.alike hK, hD⟩, hS.F ht⟩) hS.2.2 dX0_cutPiece_152
              · have c_52 := mt (b2i_z (isQ (gb T (Z 2) (lf T (Z 2) (Z 3 + 1))))).mpr c_52
                have := isQ_lt (show isQ (gb T (Z 2) (lf T (Z 2) (Z 3 + 1))) = true by simpa using c_52)
                refine lv_aload_n hx hb dX0_cutPiece_128 rfl (lv_at hl 3 rfl) ?_
                refine lv_iload_n hx hb dX0_cutPiece_129 rfl (lv_at hl 1 rfl) ?_
                refine lv_iload_n hx hb dX0_cutPiece_130 rfl (lv_at hl 0 rfl) ?_
                refine lm_calli (va_runV (As := [.int (nI (lf T (Z 2) (Z 3 + 1))), .int (bI (gb T (Z 2) (lf T (Z 2) (Z 3 + 1))))]) (rest := []) ⟨hx, hb, hml, hown, hts⟩ (c_cutWide l dC dI cA a0 a1 a2 s.heap.size Z T K (lf T (Z 2) (Z 3 + 1)) (gb T (Z 2) (lf T (Z 2) (Z 3 + 1))) (show Z 2 ≤ 32768 by omega) (show gb T (Z 2) (lf T (Z 2) (Z 3 + 1)) < 256 by omega) (show Z 4 < 65536 by omega) (show Z 6 < 2 ^ 29 by omega) (show Z 10 < 2 ^ 29 by omega) (show Z 11 ≤ 1 by omega) (show Z 14 < 2 ^ 29 by omega) (show Z 15 < 2 ^ 29 by omega) (show Z 3 ≤ Z 2 by omega) (show lf T (Z 2) (Z 3 + 1) < Z 2 by omega)) (cwV 2 hts (gV (fun _ h => h) ml_X0_130 im_X0_cutWide se_X0_cutWide ini_X0 co_X0_cutWide) rfl rfl rfl pd_X0_cutWide ⟨Nat.le_of_ble_eq_true rfl, Nat.le_of_ble_eq_true rfl⟩) (lm_preS hK hP hD) rfl rfl hl.1 rfl (lv_room (Nat.le_of_ble_eq_true rfl)) dX0_cutPiece_131 ⟨Nat.zero_le _, Nat.zero_le _⟩) hD hS hA (fun r_86 u_85 H locs q_84 hP hD hS => ?_)
                obtain ⟨rfl, rfl⟩ := q_84
                have hP : va_P (dC, dI) vwCl (lmW cA a0 a1 a2 ((cwZ T Z K (lf T (Z 2) (Z 3 + 1)) (gb T (Z 2) (lf T (Z 2) (Z 3 + 1)))).1, T, (cwZ T Z K (lf T (Z 2) (Z 3 + 1)) (gb T (Z 2) (lf T (Z 2) (Z 3 + 1)))).2.1)) H := hP
                have hD : va_D A (lmW cA a0 a1 a2 ((cwZ T Z K (lf T (Z 2) (Z 3 + 1)) (gb T (Z 2) (lf T (Z 2) (Z 3 + 1)))).1, T, (cwZ T Z K (lf T (Z 2) (Z 3 + 1)) (gb T (Z 2) (lf T (Z 2) (Z 3 + 1)))).2.1)) := hD
                have hP : va_P (dC, dI) vwCl (lmW cA a0 a1 a2 ((cpZ T Z K).1, T, (cpZ T Z K).2.1)) H := by rw [cpZ, cpR, if_neg (by omega), if_neg (by rw [c_12]; decide), if_neg (by omega), if_neg (by omega), if_neg (by rw [c_17]; decide), if_pos ⟨by omega, by simpa using c_52⟩]; exact hP
                have hD : va_D A (lmW cA a0 a1 a2 ((cpZ T Z K).1, T, (cpZ T Z K).2.1)) := by rw [cpZ, cpR, if_neg (by omega), if_neg (by rw [c_12]; decide), if_neg (by omega), if_neg (by omega), if_neg (by rw [c_17]; decide), if_pos ⟨by omega, by simpa using c_52⟩]; exact hD
                exact W.iret (v := nI ((cwZ T Z K (lf T (Z 2) (Z 3 + 1)) (gb T (Z 2) (lf T (Z 2) (Z 3 + 1)))).2.2)) hx hb hr (fun t ht hW => ⟨⟨_, ((cpZ T Z K).1, T, (cpZ T Z K).2.1), rfl, ⟨by rw [cpZ, cpR, if_neg (by omega), if_neg (by rw [c_12]; decide), if_neg (by omega), if_neg (by omega), if_neg (by rw [c_17]; decide), if_pos ⟨by omega, by simpa using c_52⟩], rfl⟩, by rw [ht]; exact hP, va_K.moved hW.alike hK, hD⟩, hS.F ht⟩) hS.2.2 dX0_cutPiece_134
          · have c_17 := mt (b2i_z (isQ (gb T (Z 2) (Z 3)))).mpr c_17
            refine lv_aload_n hx hb dX0_cutPiece_109 rfl (lv_at hl 3 rfl) ?_
            refine lv_iload_n hx hb dX0_cutPiece_110 rfl (lv_at hl 2 rfl) ?_
            refine lm_calli (va_runV (As := [.int (bI (gb T (Z 2) (Z 3)))]) (rest := []) ⟨hx, hb, hml, hown, hts⟩ (c_cutQuote l dC dI cA a0 a1 a2 s.heap.size Z T K (gb T (Z 2) (Z 3)) (show Z 2 ≤ 32768 by omega) (show gb T (Z 2) (Z 3) < 256 by omega) (show Z 4 < 65536 by omega) (show Z 6 < 2 ^ 29 by omega) (show Z 10 < 2 ^ 29 by omega) (show Z 11 ≤ 1 by omega) (show Z 14 < 2 ^ 29 by omega) (show Z 15 < 2 ^ 29 by omega) (show Z 3 < Z 2 by omega)) (cwV 1 hts (gV (fun _ h => h) ml_X0_127 im_X0_cutQuote se_X0_cutQuote ini_X0 co_X0_cutQuote) rfl rfl rfl pd_X0_cutQuote ⟨Nat.le_of_ble_eq_true rfl, Nat.le_of_ble_eq_true rfl⟩) (lm_preS hK hP hD) rfl rfl hl.1 rfl (lv_room (Nat.le_of_ble_eq_true rfl)) dX0_cutPiece_111 ⟨Nat.zero_le _, Nat.zero_le _⟩) hD hS hA (fun r_89 u_88 H locs q_87 hP hD hS => ?_)
            obtain ⟨rfl, rfl⟩ := q_87
            have hP : va_P (dC, dI) vwCl (lmW cA a0 a1 a2 ((cqZ T Z K (gb T (Z 2) (Z 3))).1, T, (cqZ T Z K (gb T (Z 2) (Z 3))).2.1)) H := hP
            have hD : va_D A (lmW cA a0 a1 a2 ((cqZ T Z K (gb T (Z 2) (Z 3))).1, T, (cqZ T Z K (gb T (Z 2) (Z 3))).2.1)) := hD
            have hP : va_P (dC, dI) vwCl (lmW cA a0 a1 a2 ((cpZ T Z K).1, T, (cpZ T Z K).2.1)) H := by rw [cpZ, cpR, if_neg (by omega), if_neg (by rw [c_12]; decide), if_neg (by omega), if_neg (by omega), if_pos (by simpa using c_17)]; exact hP
            have hD : va_D A (lmW cA a0 a1 a2 ((cpZ T Z K).1, T, (cpZ T Z K).2.1)) := by rw [cpZ, cpR, if_neg (by omega), if_neg (by rw [c_12]; decide), if_neg (by omega), if_neg (by omega), if_pos (by simpa using c_17)]; exact hD
            exact W.iret (v := nI ((cqZ T Z K (gb T (Z 2) (Z 3))).2.2)) hx hb hr (fun t ht hW => ⟨⟨_, ((cpZ T Z K).1, T, (cpZ T Z K).2.1), rfl, ⟨by rw [cpZ, cpR, if_neg (by omega), if_neg (by rw [c_12]; decide), if_neg (by omega), if_neg (by omega), if_pos (by simpa using c_17)], rfl⟩, by rw [ht]; exact hP, va_K.moved hW.alike hK, hD⟩, hS.F ht⟩) hS.2.2 dX0_cutPiece_114
        · have c_14 := (bI_eqN (by omega)).mp c_14
          refine lv_iload_n hx hb dX0_cutPiece_86 rfl (lv_at hl 0 rfl) ?_
          refine lv_bipush (v := nI 47) hx hb dX0_cutPiece_87 (by decide) ?_
          refine lv_icmp_ne (tgt := 102) hx hb dX0_cutPiece_89 (by decide) (fun c_90 => ?_) (fun c_90 => ?_)
          · have c_90 := mt (bI_eqN (by omega)).mpr c_90
            refine lv_iload_n hx hb dX0_cutPiece_102 rfl (lv_at hl 2 rfl) ?_
            refine vp_callSi (va_Run.run (va_runS (As := [.int (bI (gb T (Z 2) (Z 3)))]) (rest := []) ⟨hx, hb, hml, hown, hts⟩ (c_isQuote l (gb T (Z 2) (Z 3))) (cwS 1 hts (gS (fun _ h => h) ml_X0_124 sm_X0_isQuote ini_X0 co_X0_isQuote) rfl rfl rfl pd_X0_isQuote ⟨Nat.le_of_ble_eq_true rfl, Nat.le_of_ble_eq_true rfl⟩) st_pre rfl rfl hl.1 rfl (lv_room (Nat.le_of_ble_eq_true rfl)) dX0_cutPiece_103 ⟨Nat.zero_le _, Nat.zero_le _⟩)) (fun r_91 (e_92 : r_91 = b2i (isQ (gb T (Z 2) (Z 3)))) => ?_)
            subst e_92
            refine lv_if_eq (tgt := 115) hx hb dX0_cutPiece_106 (by decide) (fun c_93 => ?_) (fun c_93 => ?_)
            · have c_93 := (b2i_z (isQ (gb T (Z 2) (Z 3)))).mp c_93
              refine lv_iload_n hx hb dX0_cutPiece_115 rfl (lv_at hl 2 rfl) ?_
              refine lv_bipush (v := nI 76) hx hb dX0_cutPiece_116 (by decide) ?_
              refine lv_icmp_ne (tgt := 135) hx hb dX0_cutPiece_118 (by decide) (fun c_94 => ?_) (fun c_94 => ?_)
              · have c_94 := mt (bI_eqN (by omega)).mpr c_94
                refine lv_iload_n hx hb dX0_cutPiece_135 rfl (lv_at hl 2 rfl) ?_
                refine vp_callSi (va_Run.run (va_runS (As := [.int (bI (gb T (Z 2) (Z 3)))]) (rest := []) ⟨hx, hb, hml, hown, hts⟩ (c_isLetter l (gb T (Z 2) (Z 3))) (cwS 1 hts (gS (fun _ h => h) ml_X0_133 sm_X0_isLetter ini_X0 co_X0_isLetter) rfl rfl rfl pd_X0_isLetter ⟨Nat.le_of_ble_eq_true rfl, Nat.le_of_ble_eq_true rfl⟩) st_pre rfl rfl hl.1 rfl (lv_room (Nat.le_of_ble_eq_true rfl)) dX0_cutPiece_136 ⟨Nat.zero_le _, Nat.zero_le _⟩)) (fun r_95 (e_96 : r_95 = b2i (isL (gb T (Z 2) (Z 3)))) => ?_)
                subst e_96
                refine lv_if_eq (tgt := 153) hx hb dX0_cutPiece_139 (by decide) (fun c_97 => ?_) (fun c_97 => ?_)
                · have c_97 := (b2i_z (isL (gb T (Z 2) (Z 3)))).mp c_97
                  refine lv_iload_n hx hb dX0_cutPiece_153 rfl (lv_at hl 2 rfl) ?_
                  refine vp_callSi (va_Run.run (va_runS (As := [.int (bI (gb T (Z 2) (Z 3)))]) (rest := []) ⟨hx, hb, hml, hown, hts⟩ (c_isDigit l (gb T (Z 2) (Z 3))) (cwS 1 hts (gS (fun _ h => h) ml_X0_142 sm_X0_isDigit ini_X0 co_X0_isDigit) rfl rfl rfl pd_X0_isDigit ⟨Nat.le_of_ble_eq_true rfl, Nat.le_of_ble_eq_true rfl⟩) st_pre rfl rfl hl.1 rfl (lv_room (Nat.le_of_ble_eq_true rfl)) dX0_cutPiece_154 ⟨Nat.zero_le _, Nat.zero_le _⟩)) (fun r_98 (e_99 : r_98 = b2i (isD (gb T (Z 2) (Z 3)))) => ?_)
                  subst e_99
                  refine lv_if_ne (tgt := 173) hx hb dX0_cutPiece_157 (by decide) (fun c_100 => ?_) (fun c_100 => ?_)
                  · have c_100 := mt (b2i_z (isD (gb T (Z 2) (Z 3)))).mpr c_100
                    refine lv_aload_n hx hb dX0_cutPiece_173 rfl (lv_at hl 3 rfl) ?_
                    refine lv_iconst (v := nI 2) hx hb dX0_cutPiece_174 (by decide) ?_
                    refine lv_aload_n hx hb dX0_cutPiece_175 rfl (lv_at hl 3 rfl) ?_
                    refine lv_iload_n hx hb dX0_cutPiece_176 rfl (lv_at hl 1 rfl) ?_
                    refine lv_iload_n hx hb dX0_cutPiece_177 rfl (lv_at hl 2 rfl) ?_
                    refine vp_callSi (va_Run.run (va_runV (As := [.int (nI (lf T (Z 2) (Z 3 + 1))), .int (bI (gb T (Z 2) (Z 3)))]) (rest := [.int (nI 2), .ref a0]) ⟨hx, hb, hml, hown, hts⟩ (c_numberEnd l dC dI cA a0 a1 a2 Z T K (lf T (Z 2) (Z 3 + 1)) (gb T (Z 2) (Z 3)) (show Z 2 ≤ 32768 by omega) (show lf T (Z 2) (Z 3 + 1) < 2 ^ 30 - 1 by omega)) (cwV 2 hts (gV (fun _ h => h) ml_X0_145 im_X0_numberEnd se_X0_numberEnd ini_X0 co_X0_numberEnd) rfl rfl rfl pd_X0_numberEnd ⟨Nat.le_of_ble_eq_true rfl, Nat.le_of_ble_eq_true rfl⟩) (lm_preR hK hP) rfl rfl hl.1 rfl (lv_room (Nat.le_of_ble_eq_true rfl)) dX0_cutPiece_178 ⟨Nat.zero_le _, Nat.zero_le _⟩)) (fun r_101 (e_102 : r_101 = nI (nuE T (Z 2) (lf T (Z 2) (Z 3 + 1)) (gb T (Z 2) (Z 3)))) => ?_)
                    subst e_102
                    have := nuE_b T (Z 2) (lf T (Z 2) (Z 3 + 1)) (gb T (Z 2) (Z 3))
                    refine lm_calli (va_runV (As := [.int (nI 2), .int (nI (nuE T (Z 2) (lf T (Z 2) (Z 3 + 1)) (gb T (Z 2) (Z 3))))]) (rest := []) ⟨hx, hb, hml, hown, hts⟩ (c_addToken l dC dI cA a0 a1 a2 s.heap.size Z T K 2 (nuE T (Z 2) (lf T (Z 2) (Z 3 + 1)) (gb T (Z 2) (Z 3))) (show Z 2 ≤ 32768 by omega) (show nuE T (Z 2) (lf T (Z 2) (Z 3 + 1)) (gb T (Z 2) (Z 3)) ≤ Z 2 by omega) (show Z 3 ≤ Z 2 by omega) (show Z 4 < 65536 by omega) (show Z 10 < 2 ^ 29 by omega) (show Z 11 ≤ 1 by omega) (show 2 < 16 by omega)) (cwV 2 hts (gV (fun _ h => h) ml_X0_139 im_X0_addToken se_X0_addToken ini_X0 co_X0_addToken) rfl rfl rfl pd_X0_addToken ⟨Nat.le_of_ble_eq_true rfl, Nat.le_of_ble_eq_true rfl⟩) (lm_preS hK hP hD) rfl rfl hl.1 rfl (lv_room (Nat.le_of_ble_eq_true rfl)) dX0_cutPiece_181 ⟨Nat.zero_le _, Nat.zero_le _⟩) hD hS hA (fun r_105 u_104 H locs q_103 hP hD hS => ?_)
                    obtain ⟨rfl, rfl⟩ := q_103
                    have hP : va_P (dC, dI) vwCl (lmW cA a0 a1 a2 ((adZ T Z (nuE T (Z 2) (lf T (Z 2) (Z 3 + 1)) (gb T (Z 2) (Z 3)))), T, (adK T Z K 2 (nuE T (Z 2) (lf T (Z 2) (Z 3 + 1)) (gb T (Z 2) (Z 3)))))) H := hP
                    have hD : va_D A (lmW cA a0 a1 a2 ((adZ T Z (nuE T (Z 2) (lf T (Z 2) (Z 3 + 1)) (gb T (Z 2) (Z 3)))), T, (adK T Z K 2 (nuE T (Z 2) (lf T (Z 2) (Z 3 + 1)) (gb T (Z 2) (Z 3)))))) := hD
                    have hP : va_P (dC, dI) vwCl (lmW cA a0 a1 a2 ((cpZ T Z K).1, T, (cpZ T Z K).2.1)) H := by rw [cpZ, cpR, if_neg (by omega), if_neg (by rw [c_12]; decide), if_neg (by omega), if_neg (by omega), if_neg (by rw [c_93]; decide), if_neg (fun z => by have := z.1; omega), if_neg (by rw [c_97]; decide), if_pos (Or.inl (by simpa using c_100))]; exact hP
                    have hD : va_D A (lmW cA a0 a1 a2 ((cpZ T Z K).1, T, (cpZ T Z K).2.1)) := by rw [cpZ, cpR, if_neg (by omega), if_neg (by rw [c_12]; decide), if_neg (by omega), if_neg (by omega), if_neg (by rw [c_93]; decide), if_neg (fun z => by have := z.1; omega), if_neg (by rw [c_97]; decide), if_pos (Or.inl (by simpa using c_100))]; exact hD
                    exact W.iret (v := nI 0) hx hb hr (fun t ht hW => ⟨⟨_, ((cpZ T Z K).1, T, (cpZ T Z K).2.1), rfl, ⟨by rw [cpZ, cpR, if_neg (by omega), if_neg (by rw [c_12]; decide), if_neg (by omega), if_neg (by omega), if_neg (by rw [c_93]; decide), if_neg (fun z => by have := z.1; omega), if_neg (by rw [c_97]; decide), if_pos (Or.inl (by simpa using c_100))], rfl⟩, by rw [ht]; exact hP, va_K.moved hW.alike hK, hD⟩, hS.F ht⟩) hS.2.2 dX0_cutPiece_184
                  · have c_100 := (b2i_z (isD (gb T (Z 2) (Z 3)))).mp c_100
                    refine lv_iload_n hx hb dX0_cutPiece_160 rfl (lv_at hl 2 rfl) ?_
                    refine lv_bipush (v := nI 46) hx hb dX0_cutPiece_161 (by decide) ?_
                    refine lv_icmp_ne (tgt := 185) hx hb dX0_cutPiece_163 (by decide) (fun c_106 => ?_) (fun c_106 => ?_)
                    · have c_106 := mt (bI_eqN (by omega)).mpr c_106
                      refine lv_aload_n hx hb dX0_cutPiece_185 rfl (lv_at hl 3 rfl) ?_
                      refine lv_iload_n hx hb dX0_cutPiece_186 rfl (lv_at hl 2 rfl) ?_
                      refine lv_iload_n hx hb dX0_cutPiece_187 rfl (lv_at hl 0 rfl) ?_
                      refine lv_iload_n hx hb dX0_cutPiece_188 rfl (lv_at hl 1 rfl) ?_
                      have hwH := hw
                      refine lm_calli (va_runV (As := [.int (bI (gb T (Z 2) (Z 3))), .int (bI (gb T (Z 2) (lf T (Z 2) (Z 3 + 1)))), .int (nI (lf T (Z 2) (Z 3 + 1)))]) (rest := []) ⟨hx, hb, hml, hown, hts⟩ (c_cutSign l dC dI cA a0 a1 a2 dK dV A0 s.heap.size Z T K (gb T (Z 2) (Z 3)) (gb T (Z 2) (lf T (Z 2) (Z 3 + 1))) (lf T (Z 2) (Z 3 + 1)) (show Z 2 ≤ 32768 by omega) (show Z 4 < 65536 by omega) (show Z 10 < 2 ^ 29 by omega) (show Z 11 ≤ 1 by omega) (show Z 3 ≤ Z 2 by omega) (show lf T (Z 2) (Z 3 + 1) ≤ Z 2 by omega) (show gb T (Z 2) (lf T (Z 2) (Z 3 + 1)) = gb T (Z 2) (lf T (Z 2) (Z 3 + 1)) by omega)) (cwV 3 hts (gV (fun _ h => h) ml_X0_148 im_X0_cutSign se_X0_cutSign ini_X0 co_X0_cutSign) rfl rfl rfl pd_X0_cutSign ⟨Nat.le_of_ble_eq_true rfl, Nat.le_of_ble_eq_true rfl⟩) (lm_preW hK hP hD hwH) rfl rfl hl.1 rfl (lv_room (Nat.le_of_ble_eq_true rfl)) dX0_cutPiece_189 ⟨Nat.zero_le _, Nat.zero_le _⟩) hD hS hA (fun r_109 u_108 H locs q_107 hP hD hS => ?_)
                      obtain ⟨rfl, rfl⟩ := q_107
                      have hP : va_P (dC, dI) vwCl (lmW cA a0 a1 a2 ((csZ T Z K (gb T (Z 2) (Z 3)) (gb T (Z 2) (lf T (Z 2) (Z 3 + 1))) (lf T (Z 2) (Z 3 + 1))).1, T, (csZ T Z K (gb T (Z 2) (Z 3)) (gb T (Z 2) (lf T (Z 2) (Z 3 + 1))) (lf T (Z 2) (Z 3 + 1))).2.1)) H := hP
                      have hD : va_D A (lmW cA a0 a1 a2 ((csZ T Z K (gb T (Z 2) (Z 3)) (gb T (Z 2) (lf T (Z 2) (Z 3 + 1))) (lf T (Z 2) (Z 3 + 1))).1, T, (csZ T Z K (gb T (Z 2) (Z 3)) (gb T (Z 2) (lf T (Z 2) (Z 3 + 1))) (lf T (Z 2) (Z 3 + 1))).2.1)) := hD
                      have hP : va_P (dC, dI) vwCl (lmW cA a0 a1 a2 ((cpZ T Z K).1, T, (cpZ T Z K).2.1)) H := by rw [cpZ, cpR, if_neg (by omega), if_neg (by rw [c_12]; decide), if_neg (by omega), if_neg (by omega), if_neg (by rw [c_93]; decide), if_neg (fun z => by have := z.1; omega), if_neg (by rw [c_97]; decide), if_neg (fun z => by rcases z with z | z; exact absurd z (by rw [c_100]; decide); have := z.1; omega)]; exact hP
                      have hD : va_D A (lmW cA a0 a1 a2 ((cpZ T Z K).1, T, (cpZ T Z K).2.1)) := by rw [cpZ, cpR, if_neg (by omega), if_neg (by rw [c_12]; decide), if_neg (by omega), if_neg (by omega), if_neg (by rw [c_93]; decide), if_neg (fun z => by have := z.1; omega), if_neg (by rw [c_97]; decide), if_neg (fun z => by rcases z with z | z; exact absurd z (by rw [c_100]; decide); have := z.1; omega)]; exact hD
                      exact W.iret (v := nI ((csZ T Z K (gb T (Z 2) (Z 3)) (gb T (Z 2) (lf T (Z 2) (Z 3 + 1))) (lf T (Z 2) (Z 3 + 1))).2.2)) hx hb hr (fun t ht hW => ⟨⟨_, ((cpZ T Z K).1, T, (cpZ T Z K).2.1), rfl, ⟨by rw [cpZ, cpR, if_neg (by omega), if_neg (by rw [c_12]; decide), if_neg (by omega), if_neg (by omega), if_neg (by rw [c_93]; decide), if_neg (fun z => by have := z.1; omega), if_neg (by rw [c_97]; decide), if_neg (fun z => by rcases z with z | z; exact absurd z (by rw [c_100]; decide); have := z.1; omega)], rfl⟩, by rw [ht]; exact hP, va_K.moved hW.alike hK, hD⟩, hS.F ht⟩) hS.2.2 dX0_cutPiece_192
                    · have c_106 := (bI_eqN (by omega)).mp c_106
                      refine lv_iload_n hx hb dX0_cutPiece_166 rfl (lv_at hl 0 rfl) ?_
                      refine vp_callSi (va_Run.run (va_runS (As := [.int (bI (gb T (Z 2) (lf T (Z 2) (Z 3 + 1))))]) (rest := []) ⟨hx, hb, hml, hown, hts⟩ (c_isDigit l (gb T (Z 2) (lf T (Z 2) (Z 3 + 1)))) (cwS 1 hts (gS (fun _ h => h) ml_X0_142 sm_X0_isDigit ini_X0 co_X0_isDigit) rfl rfl rfl pd_X0_isDigit ⟨Nat.le_of_ble_eq_true rfl, Nat.le_of_ble_eq_true rfl⟩) st_pre rfl rfl hl.1 rfl (lv_room (Nat.le_of_ble_eq_true rfl)) dX0_cutPiece_167 ⟨Nat.zero_le _, Nat.zero_le _⟩)) (fun r_110 (e_111 : r_110 = b2i (isD (gb T (Z 2) (lf T (Z 2) (Z 3 + 1))))) => ?_)
                      subst e_111
                      refine lv_if_eq (tgt := 185) hx hb dX0_cutPiece_170 (by decide) (fun c_112 => ?_) (fun c_112 => ?_)
                      · have c_112 := (b2i_z (isD (gb T (Z 2) (lf T (Z 2) (Z 3 + 1))))).mp c_112
                        refine lv_aload_n hx hb dX0_cutPiece_185 rfl (lv_at hl 3 rfl) ?_
                        refine lv_iload_n hx hb dX0_cutPiece_186 rfl (lv_at hl 2 rfl) ?_
                        refine lv_iload_n hx hb dX0_cutPiece_187 rfl (lv_at hl 0 rfl) ?_
                        refine lv_iload_n hx hb dX0_cutPiece_188 rfl (lv_at hl 1 rfl) ?_
                        have hwH := hw
                        refine lm_calli (va_runV (As := [.int (bI (gb T (Z 2) (Z 3))), .int (bI (gb T (Z 2) (lf T (Z 2) (Z 3 + 1)))), .int (nI (lf T (Z 2) (Z 3 + 1)))]) (rest := []) ⟨hx, hb, hml, hown, hts⟩ (c_cutSign l dC dI cA a0 a1 a2 dK dV A0 s.heap.size Z T K (gb T (Z 2) (Z 3)) (gb T (Z 2) (lf T (Z 2) (Z 3 + 1))) (lf T (Z 2) (Z 3 + 1)) (show Z 2 ≤ 32768 by omega) (show Z 4 < 65536 by omega) (show Z 10 < 2 ^ 29 by omega) (show Z 11 ≤ 1 by omega) (show Z 3 ≤ Z 2 by omega) (show lf T (Z 2) (Z 3 + 1) ≤ Z 2 by omega) (show gb T (Z 2) (lf T (Z 2) (Z 3 + 1)) = gb T (Z 2) (lf T (Z 2) (Z 3 + 1)) by omega)) (cwV 3 hts (gV (fun _ h => h) ml_X0_148 im_X0_cutSign se_X0_cutSign ini_X0 co_X0_cutSign) rfl rfl rfl pd_X0_cutSign ⟨Nat.le_of_ble_eq_true rfl, Nat.le_of_ble_eq_true rfl⟩) (lm_preW hK hP hD hwH) rfl rfl hl.1 rfl (lv_room (Nat.le_of_ble_eq_true rfl)) dX0_cutPiece_189 ⟨Nat.zero_le _, Nat.zero_le _⟩) hD hS hA (fun r_115 u_114 H locs q_113 hP hD hS => ?_)
                        obtain ⟨rfl, rfl⟩ := q_113
                        have hP : va_P (dC, dI) vwCl (lmW cA a0 a1 a2 ((csZ T Z K (gb T (Z 2) (Z 3)) (gb T (Z 2) (lf T (Z 2) (Z 3 + 1))) (lf T (Z 2) (Z 3 + 1))).1, T, (csZ T Z K (gb T (Z 2) (Z 3)) (gb T (Z 2) (lf T (Z 2) (Z 3 + 1))) (lf T (Z 2) (Z 3 + 1))).2.1)) H := hP
                        have hD : va_D A (lmW cA a0 a1 a2 ((csZ T Z K (gb T (Z 2) (Z 3)) (gb T (Z 2) (lf T (Z 2) (Z 3 + 1))) (lf T (Z 2) (Z 3 + 1))).1, T, (csZ T Z K (gb T (Z 2) (Z 3)) (gb T (Z 2) (lf T (Z 2) (Z 3 + 1))) (lf T (Z 2) (Z 3 + 1))).2.1)) := hD
                        have hP : va_P (dC, dI) vwCl (lmW cA a0 a1 a2 ((cpZ T Z K).1, T, (cpZ T Z K).2.1)) H := by rw [cpZ, cpR, if_neg (by omega), if_neg (by rw [c_12]; decide), if_neg (by omega), if_neg (by omega), if_neg (by rw [c_93]; decide), if_neg (fun z => by have := z.1; omega), if_neg (by rw [c_97]; decide), if_neg (fun z => by rcases z with z | z; exact absurd z (by rw [c_100]; decide); exact absurd z.2 (by rw [c_112]; decide))]; exact hP
                        have hD : va_D A (lmW cA a0 a1 a2 ((cpZ T Z K).1, T, (cpZ T Z K).2.1)) := by rw [cpZ, cpR, if_neg (by omega), if_neg (by rw [c_12]; decide), if_neg (by omega), if_neg (by omega), if_neg (by rw [c_93]; decide), if_neg (fun z => by have := z.1; omega), if_neg (by rw [c_97]; decide), if_neg (fun z => by rcases z with z | z; exact absurd z (by rw [c_100]; decide); exact absurd z.2 (by rw [c_112]; decide))]; exact hD
                        exact W.iret (v := nI ((csZ T Z K (gb T (Z 2) (Z 3)) (gb T (Z 2) (lf T (Z 2) (Z 3 + 1))) (lf T (Z 2) (Z 3 + 1))).2.2)) hx hb hr (fun t ht hW => ⟨⟨_, ((cpZ T Z K).1, T, (cpZ T Z K).2.1), rfl, ⟨by rw [cpZ, cpR, if_neg (by omega), if_neg (by rw [c_12]; decide), if_neg (by omega), if_neg (by omega), if_neg (by rw [c_93]; decide), if_neg (fun z => by have := z.1; omega), if_neg (by rw [c_97]; decide), if_neg (fun z => by rcases z with z | z; exact absurd z (by rw [c_100]; decide); exact absurd z.2 (by rw [c_112]; decide))], rfl⟩, by rw [ht]; exact hP, va_K.moved hW.alike hK, hD⟩, hS.F ht⟩) hS.2.2 dX0_cutPiece_192
                      · have c_112 := mt (b2i_z (isD (gb T (Z 2) (lf T (Z 2) (Z 3 + 1))))).mpr c_112
                        refine lv_aload_n hx hb dX0_cutPiece_173 rfl (lv_at hl 3 rfl) ?_
                        refine lv_iconst (v := nI 2) hx hb dX0_cutPiece_174 (by decide) ?_
                        refine lv_aload_n hx hb dX0_cutPiece_175 rfl (lv_at hl 3 rfl) ?_
                        refine lv_iload_n hx hb dX0_cutPiece_176 rfl (lv_at hl 1 rfl) ?_
                        refine lv_iload_n hx hb dX0_cutPiece_177 rfl (lv_at hl 2 rfl) ?_
                        refine vp_callSi (va_Run.run (va_runV (As := [.int (nI (lf T (Z 2) (Z 3 + 1))), .int (bI (gb T (Z 2) (Z 3)))]) (rest := [.int (nI 2), .ref a0]) ⟨hx, hb, hml, hown, hts⟩ (c_numberEnd l dC dI cA a0 a1 a2 Z T K (lf T (Z 2) (Z 3 + 1)) (gb T (Z 2) (Z 3)) (show Z 2 ≤ 32768 by omega) (show lf T (Z 2) (Z 3 + 1) < 2 ^ 30 - 1 by omega)) (cwV 2 hts (gV (fun _ h => h) ml_X0_145 im_X0_numberEnd se_X0_numberEnd ini_X0 co_X0_numberEnd) rfl rfl rfl pd_X0_numberEnd ⟨Nat.le_of_ble_eq_true rfl, Nat.le_of_ble_eq_true rfl⟩) (lm_preR hK hP) rfl rfl hl.1 rfl (lv_room (Nat.le_of_ble_eq_true rfl)) dX0_cutPiece_178 ⟨Nat.zero_le _, Nat.zero_le _⟩)) (fun r_116 (e_117 : r_116 = nI (nuE T (Z 2) (lf T (Z 2) (Z 3 + 1)) (gb T (Z 2) (Z 3)))) => ?_)
                        subst e_117
                        have := nuE_b T (Z 2) (lf T (Z 2) (Z 3 + 1)) (gb T (Z 2) (Z 3))
                        refine lm_calli (va_runV (As := [.int (nI 2), .int (nI (nuE T (Z 2) (lf T (Z 2) (Z 3 + 1)) (gb T (Z 2) (Z 3))))]) (rest := []) ⟨hx, hb, hml, hown, hts⟩ (c_addToken l dC dI cA a0 a1 a2 s.heap.size Z T K 2 (nuE T (Z 2) (lf T (Z 2) (Z 3 + 1)) (gb T (Z 2) (Z 3))) (show Z 2 ≤ 32768 by omega) (show nuE T (Z 2) (lf T (Z 2) (Z 3 + 1)) (gb T (Z 2) (Z 3)) ≤ Z 2 by omega) (show Z 3 ≤ Z 2 by omega) (show Z 4 < 65536 by omega) (show Z 10 < 2 ^ 29 by omega) (show Z 11 ≤ 1 by omega) (show 2 < 16 by omega)) (cwV 2 hts (gV (fun _ h => h) ml_X0_139 im_X0_addToken se_X0_addToken ini_X0 co_X0_addToken) rfl rfl rfl pd_X0_addToken ⟨Nat.le_of_ble_eq_true rfl, Nat.le_of_ble_eq_true rfl⟩) (lm_preS hK hP hD) rfl rfl hl.1 rfl (lv_room (Nat.le_of_ble_eq_true rfl)) dX0_cutPiece_181 ⟨Nat.zero_le _, Nat.zero_le _⟩) hD hS hA (fun r_120 u_119 H locs q_118 hP hD hS => ?_)
                        obtain ⟨rfl, rfl⟩ := q_118
                        have hP : va_P (dC, dI) vwCl (lmW cA a0 a1 a2 ((adZ T Z (nuE T (Z 2) (lf T (Z 2) (Z 3 + 1)) (gb T (Z 2) (Z 3)))), T, (adK T Z K 2 (nuE T (Z 2) (lf T (Z 2) (Z 3 + 1)) (gb T (Z 2) (Z 3)))))) H := hP
                        have hD : va_D A (lmW cA a0 a1 a2 ((adZ T Z (nuE T (Z 2) (lf T (Z 2) (Z 3 + 1)) (gb T (Z 2) (Z 3)))), T, (adK T Z K 2 (nuE T (Z 2) (lf T (Z 2) (Z 3 + 1)) (gb T (Z 2) (Z 3)))))) := hD
                        have hP : va_P (dC, dI) vwCl (lmW cA a0 a1 a2 ((cpZ T Z K).1, T, (cpZ T Z K).2.1)) H := by rw [cpZ, cpR, if_neg (by omega), if_neg (by rw [c_12]; decide), if_neg (by omega), if_neg (by omega), if_neg (by rw [c_93]; decide), if_neg (fun z => by have := z.1; omega), if_neg (by rw [c_97]; decide), if_pos (Or.inr ⟨by omega, by simpa using c_112⟩)]; exact hP
                        have hD : va_D A (lmW cA a0 a1 a2 ((cpZ T Z K).1, T, (cpZ T Z K).2.1)) := by rw [cpZ, cpR, if_neg (by omega), if_neg (by rw [c_12]; decide), if_neg (by omega), if_neg (by omega), if_neg (by rw [c_93]; decide), if_neg (fun z => by have := z.1; omega), if_neg (by rw [c_97]; decide), if_pos (Or.inr ⟨by omega, by simpa using c_112⟩)]; exact hD
                        exact W.iret (v := nI 0) hx hb hr (fun t ht hW => ⟨⟨_, ((cpZ T Z K).1, T, (cpZ T Z K).2.1), rfl, ⟨by rw [cpZ, cpR, if_neg (by omega), if_neg (by rw [c_12]; decide), if_neg (by omega), if_neg (by omega), if_neg (by rw [c_93]; decide), if_neg (fun z => by have := z.1; omega), if_neg (by rw [c_97]; decide), if_pos (Or.inr ⟨by omega, by simpa using c_112⟩)], rfl⟩, by rw [ht]; exact hP, va_K.moved hW.alike hK, hD⟩, hS.F ht⟩) hS.2.2 dX0_cutPiece_184
                · have c_97 := mt (b2i_z (isL (gb T (Z 2) (Z 3)))).mpr c_97
                  refine lv_aload_n hx hb dX0_cutPiece_142 rfl (lv_at hl 3 rfl) ?_
                  refine lv_iconst (v := nI 1) hx hb dX0_cutPiece_143 (by decide) ?_
                  refine lv_aload_n hx hb dX0_cutPiece_144 rfl (lv_at hl 3 rfl) ?_
                  refine lv_iload_n hx hb dX0_cutPiece_145 rfl (lv_at hl 1 rfl) ?_
                  refine vp_callSi (va_Run.run (va_runV (As := [.int (nI (lf T (Z 2) (Z 3 + 1)))]) (rest := [.int (nI 1), .ref a0]) ⟨hx, hb, hml, hown, hts⟩ (c_nameEnd l dC dI cA a0 a1 a2 Z T K (lf T (Z 2) (Z 3 + 1)) (show Z 2 ≤ 32768 by omega) (show lf T (Z 2) (Z 3 + 1) < 2 ^ 30 - 1 by omega)) (cwV 1 hts (gV (fun _ h => h) ml_X0_136 im_X0_nameEnd se_X0_nameEnd ini_X0 co_X0_nameEnd) rfl rfl rfl pd_X0_nameEnd ⟨Nat.le_of_ble_eq_true rfl, Nat.le_of_ble_eq_true rfl⟩) (lm_preR hK hP) rfl rfl hl.1 rfl (lv_room (Nat.le_of_ble_eq_true rfl)) dX0_cutPiece_146 ⟨Nat.zero_le _, Nat.zero_le _⟩)) (fun r_121 (e_122 : r_121 = nI (nmE T (Z 2) (lf T (Z 2) (Z 3 + 1)))) => ?_)
                  subst e_122
                  have := nmE_b T (Z 2) (lf T (Z 2) (Z 3 + 1))
                  refine lm_calli (va_runV (As := [.int (nI 1), .int (nI (nmE T (Z 2) (lf T (Z 2) (Z 3 + 1))))]) (rest := []) ⟨hx, hb, hml, hown, hts⟩ (c_addToken l dC dI cA a0 a1 a2 s.heap.size Z T K 1 (nmE T (Z 2) (lf T (Z 2) (Z 3 + 1))) (show Z 2 ≤ 32768 by omega) (show nmE T (Z 2) (lf T (Z 2) (Z 3 + 1)) ≤ Z 2 by omega) (show Z 3 ≤ Z 2 by omega) (show Z 4 < 65536 by omega) (show Z 10 < 2 ^ 29 by omega) (show Z 11 ≤ 1 by omega) (show 1 < 16 by omega)) (cwV 2 hts (gV (fun _ h => h) ml_X0_139 im_X0_addToken se_X0_addToken ini_X0 co_X0_addToken) rfl rfl rfl pd_X0_addToken ⟨Nat.le_of_ble_eq_true rfl, Nat.le_of_ble_eq_true rfl⟩) (lm_preS hK hP hD) rfl rfl hl.1 rfl (lv_room (Nat.le_of_ble_eq_true rfl)) dX0_cutPiece_149 ⟨Nat.zero_le _, Nat.zero_le _⟩) hD hS hA (fun r_125 u_124 H locs q_123 hP hD hS => ?_)
                  obtain ⟨rfl, rfl⟩ := q_123
                  have hP : va_P (dC, dI) vwCl (lmW cA a0 a1 a2 ((adZ T Z (nmE T (Z 2) (lf T (Z 2) (Z 3 + 1)))), T, (adK T Z K 1 (nmE T (Z 2) (lf T (Z 2) (Z 3 + 1)))))) H := hP
                  have hD : va_D A (lmW cA a0 a1 a2 ((adZ T Z (nmE T (Z 2) (lf T (Z 2) (Z 3 + 1)))), T, (adK T Z K 1 (nmE T (Z 2) (lf T (Z 2) (Z 3 + 1)))))) := hD
                  have hP : va_P (dC, dI) vwCl (lmW cA a0 a1 a2 ((cpZ T Z K).1, T, (cpZ T Z K).2.1)) H := by rw [cpZ, cpR, if_neg (by omega), if_neg (by rw [c_12]; decide), if_neg (by omega), if_neg (by omega), if_neg (by rw [c_93]; decide), if_neg (fun z => by have := z.1; omega), if_pos (by simpa using c_97)]; exact hP
                  have hD : va_D A (lmW cA a0 a1 a2 ((cpZ T Z K).1, T, (cpZ T Z K).2.1)) := by rw [cpZ, cpR, if_neg (by omega), if_neg (by rw [c_12]; decide), if_neg (by omega), if_neg (by omega), if_neg (by rw [c_93]; decide), if_neg (fun z => by have := z.1; omega), if_pos (by simpa using c_97)]; exact hD
                  exact W.iret (v := nI 0) hx hb hr (fun t ht hW => ⟨⟨_, ((cpZ T Z K).1, T, (cpZ T Z K).2.1), rfl, ⟨by rw [cpZ, cpR, if_neg (by omega), if_neg (by rw [c_12]; decide), if_neg (by omega), if_neg (by omega), if_neg (by rw [c_93]; decide), if_neg (fun z => by have := z.1; omega), if_pos (by simpa using c_97)], rfl⟩, by rw [ht]; exact hP, va_K.moved hW.alike hK, hD⟩, hS.F ht⟩) hS.2.2 dX0_cutPiece_152
              · have c_94 := (bI_eqN (by omega)).mp c_94
                refine lv_iload_n hx hb dX0_cutPiece_121 rfl (lv_at hl 0 rfl) ?_
                refine vp_callSi (va_Run.run (va_runS (As := [.int (bI (gb T (Z 2) (lf T (Z 2) (Z 3 + 1))))]) (rest := []) ⟨hx, hb, hml, hown, hts⟩ (c_isQuote l (gb T (Z 2) (lf T (Z 2) (Z 3 + 1)))) (cwS 1 hts (gS (fun _ h => h) ml_X0_124 sm_X0_isQuote ini_X0 co_X0_isQuote) rfl rfl rfl pd_X0_isQuote ⟨Nat.le_of_ble_eq_true rfl, Nat.le_of_ble_eq_true rfl⟩) st_pre rfl rfl hl.1 rfl (lv_room (Nat.le_of_ble_eq_true rfl)) dX0_cutPiece_122 ⟨Nat.zero_le _, Nat.zero_le _⟩)) (fun r_126 (e_127 : r_126 = b2i (isQ (gb T (Z 2) (lf T (Z 2) (Z 3 + 1))))) => ?_)
                subst e_127
                refine lv_if_eq (tgt := 135) hx hb dX0_cutPiece_125 (by decide) (fun c_128 => ?_) (fun c_128 => ?_)
                · have c_128 := (b2i_z (isQ (gb T (Z 2) (lf T (Z 2) (Z 3 + 1))))).mp c_128
                  refine lv_iload_n hx hb dX0_cutPiece_135 rfl (lv_at hl 2 rfl) ?_
                  refine vp_callSi (va_Run.run (va_runS (As := [.int (bI (gb T (Z 2) (Z 3)))]) (rest := []) ⟨hx, hb, hml, hown, hts⟩ (c_isLetter l (gb T (Z 2) (Z 3))) (cwS 1 hts (gS (fun _ h => h) ml_X0_133 sm_X0_isLetter ini_X0 co_X0_isLetter) rfl rfl rfl pd_X0_isLetter ⟨Nat.le_of_ble_eq_true rfl, Nat.le_of_ble_eq_true rfl⟩) st_pre rfl rfl hl.1 rfl (lv_room (Nat.le_of_ble_eq_true rfl)) dX0_cutPiece_136 ⟨Nat.zero_le _, Nat.zero_le _⟩)) (fun r_129 (e_130 : r_129 = b2i (isL (gb T (Z 2) (Z 3)))) => ?_)
                  subst e_130
                  refine lv_if_eq (tgt := 153) hx hb dX0_cutPiece_139 (by decide) (fun c_131 => ?_) (fun c_131 => ?_)
                  · have c_131 := (b2i_z (isL (gb T (Z 2) (Z 3)))).mp c_131
                    refine lv_iload_n hx hb dX0_cutPiece_153 rfl (lv_at hl 2 rfl) ?_
                    refine vp_callSi (va_Run.run (va_runS (As := [.int (bI (gb T (Z 2) (Z 3)))]) (rest := []) ⟨hx, hb, hml, hown, hts⟩ (c_isDigit l (gb T (Z 2) (Z 3))) (cwS 1 hts (gS (fun _ h => h) ml_X0_142 sm_X0_isDigit ini_X0 co_X0_isDigit) rfl rfl rfl pd_X0_isDigit ⟨Nat.le_of_ble_eq_true rfl, Nat.le_of_ble_eq_true rfl⟩) st_pre rfl rfl hl.1 rfl (lv_room (Nat.le_of_ble_eq_true rfl)) dX0_cutPiece_154 ⟨Nat.zero_le _, Nat.zero_le _⟩)) (fun r_132 (e_133 : r_132 = b2i (isD (gb T (Z 2) (Z 3)))) => ?_)
                    subst e_133
                    refine lv_if_ne (tgt := 173) hx hb dX0_cutPiece_157 (by decide) (fun c_134 => ?_) (fun c_134 => ?_)
                    · have c_134 := mt (b2i_z (isD (gb T (Z 2) (Z 3)))).mpr c_134
                      refine lv_aload_n hx hb dX0_cutPiece_173 rfl (lv_at hl 3 rfl) ?_
                      refine lv_iconst (v := nI 2) hx hb dX0_cutPiece_174 (by decide) ?_
                      refine lv_aload_n hx hb dX0_cutPiece_175 rfl (lv_at hl 3 rfl) ?_
                      refine lv_iload_n hx hb dX0_cutPiece_176 rfl (lv_at hl 1 rfl) ?_
                      refine lv_iload_n hx hb dX0_cutPiece_177 rfl (lv_at hl 2 rfl) ?_
                      refine vp_callSi (va_Run.run (va_runV (As := [.int (nI (lf T (Z 2) (Z 3 + 1))), .int (bI (gb T (Z 2) (Z 3)))]) (rest := [.int (nI 2), .ref a0]) ⟨hx, hb, hml, hown, hts⟩ (c_numberEnd l dC dI cA a0 a1 a2 Z T K (lf T (Z 2) (Z 3 + 1)) (gb T (Z 2) (Z 3)) (show Z 2 ≤ 32768 by omega) (show lf T (Z 2) (Z 3 + 1) < 2 ^ 30 - 1 by omega)) (cwV 2 hts (gV (fun _ h => h) ml_X0_145 im_X0_numberEnd se_X0_numberEnd ini_X0 co_X0_numberEnd) rfl rfl rfl pd_X0_numberEnd ⟨Nat.le_of_ble_eq_true rfl, Nat.le_of_ble_eq_true rfl⟩) (lm_preR hK hP) rfl rfl hl.1 rfl (lv_room (Nat.le_of_ble_eq_true rfl)) dX0_cutPiece_178 ⟨Nat.zero_le _, Nat.zero_le _⟩)) (fun r_135 (e_136 : r_135 = nI (nuE T (Z 2) (lf T (Z 2) (Z 3 + 1)) (gb T (Z 2) (Z 3)))) => ?_)
                      subst e_136
                      have := nuE_b T (Z 2) (lf T (Z 2) (Z 3 + 1)) (gb T (Z 2) (Z 3))
                      refine lm_calli (va_runV (As := [.int (nI 2), .int (nI (nuE T (Z 2) (lf T (Z 2) (Z 3 + 1)) (gb T (Z 2) (Z 3))))]) (rest := []) ⟨hx, hb, hml, hown, hts⟩ (c_addToken l dC dI cA a0 a1 a2 s.heap.size Z T K 2 (nuE T (Z 2) (lf T (Z 2) (Z 3 + 1)) (gb T (Z 2) (Z 3))) (show Z 2 ≤ 32768 by omega) (show nuE T (Z 2) (lf T (Z 2) (Z 3 + 1)) (gb T (Z 2) (Z 3)) ≤ Z 2 by omega) (show Z 3 ≤ Z 2 by omega) (show Z 4 < 65536 by omega) (show Z 10 < 2 ^ 29 by omega) (show Z 11 ≤ 1 by omega) (show 2 < 16 by omega)) (cwV 2 hts (gV (fun _ h => h) ml_X0_139 im_X0_addToken se_X0_addToken ini_X0 co_X0_addToken) rfl rfl rfl pd_X0_addToken ⟨Nat.le_of_ble_eq_true rfl, Nat.le_of_ble_eq_true rfl⟩) (lm_preS hK hP hD) rfl rfl hl.1 rfl (lv_room (Nat.le_of_ble_eq_true rfl)) dX0_cutPiece_181 ⟨Nat.zero_le _, Nat.zero_le _⟩) hD hS hA (fun r_139 u_138 H locs q_137 hP hD hS => ?_)
                      obtain ⟨rfl, rfl⟩ := q_137
                      have hP : va_P (dC, dI) vwCl (lmW cA a0 a1 a2 ((adZ T Z (nuE T (Z 2) (lf T (Z 2) (Z 3 + 1)) (gb T (Z 2) (Z 3)))), T, (adK T Z K 2 (nuE T (Z 2) (lf T (Z 2) (Z 3 + 1)) (gb T (Z 2) (Z 3)))))) H := hP
                      have hD : va_D A (lmW cA a0 a1 a2 ((adZ T Z (nuE T (Z 2) (lf T (Z 2) (Z 3 + 1)) (gb T (Z 2) (Z 3)))), T, (adK T Z K 2 (nuE T (Z 2) (lf T (Z 2) (Z 3 + 1)) (gb T (Z 2) (Z 3)))))) := hD
                      have hP : va_P (dC, dI) vwCl (lmW cA a0 a1 a2 ((cpZ T Z K).1, T, (cpZ T Z K).2.1)) H := by rw [cpZ, cpR, if_neg (by omega), if_neg (by rw [c_12]; decide), if_neg (by omega), if_neg (by omega), if_neg (by rw [c_93]; decide), if_neg (fun z => absurd z.2 (by rw [c_128]; decide)), if_neg (by rw [c_131]; decide), if_pos (Or.inl (by simpa using c_134))]; exact hP
                      have hD : va_D A (lmW cA a0 a1 a2 ((cpZ T Z K).1, T, (cpZ T Z K).2.1)) := by rw [cpZ, cpR, if_neg (by omega), if_neg (by rw [c_12]; decide), if_neg (by omega), if_neg (by omega), if_neg (by rw [c_93]; decide), if_neg (fun z => absurd z.2 (by rw [c_128]; decide)), if_neg (by rw [c_131]; decide), if_pos (Or.inl (by simpa using c_134))]; exact hD
                      exact W.iret (v := nI 0) hx hb hr (fun t ht hW => ⟨⟨_, ((cpZ T Z K).1, T, (cpZ T Z K).2.1), rfl, ⟨by rw [cpZ, cpR, if_neg (by omega), if_neg (by rw [c_12]; decide), if_neg (by omega), if_neg (by omega), if_neg (by rw [c_93]; decide), if_neg (fun z => absurd z.2 (by rw [c_128]; decide)), if_neg (by rw [c_131]; decide), if_pos (Or.inl (by simpa using c_134))], rfl⟩, by rw [ht]; exact hP, va_K.moved hW.alike hK, hD⟩, hS.F ht⟩) hS.2.2 dX0_cutPiece_184
                    · have c_134 := (b2i_z (isD (gb T (Z 2) (Z 3)))).mp c_134
                      refine lv_iload_n hx hb dX0_cutPiece_160 rfl (lv_at hl 2 rfl) ?_
                      refine lv_bipush (v := nI 46) hx hb dX0_cutPiece_161 (by decide) ?_
                      refine lv_icmp_ne (tgt := 185) hx hb dX0_cutPiece_163 (by decide) (fun c_140 => ?_) (fun c_140 => ?_)
                      · have c_140 := mt (bI_eqN (by omega)).mpr c_140
                        refine lv_aload_n hx hb dX0_cutPiece_185 rfl (lv_at hl 3 rfl) ?_
                        refine lv_iload_n hx hb dX0_cutPiece_186 rfl (lv_at hl 2 rfl) ?_
                        refine lv_iload_n hx hb dX0_cutPiece_187 rfl (lv_at hl 0 rfl) ?_
                        refine lv_iload_n hx hb dX0_cutPiece_188 rfl (lv_at hl 1 rfl) ?_
                        have hwH := hw
                        refine lm_calli (va_runV (As := [.int (bI (gb T (Z 2) (Z 3))), .int (bI (gb T (Z 2) (lf T (Z 2) (Z 3 + 1)))), .int (nI (lf T (Z 2) (Z 3 + 1)))]) (rest := []) ⟨hx, hb, hml, hown, hts⟩ (c_cutSign l dC dI cA a0 a1 a2 dK dV A0 s.heap.size Z T K (gb T (Z 2) (Z 3)) (gb T (Z 2) (lf T (Z 2) (Z 3 + 1))) (lf T (Z 2) (Z 3 + 1)) (show Z 2 ≤ 32768 by omega) (show Z 4 < 65536 by omega) (show Z 10 < 2 ^ 29 by omega) (show Z 11 ≤ 1 by omega) (show Z 3 ≤ Z 2 by omega) (show lf T (Z 2) (Z 3 + 1) ≤ Z 2 by omega) (show gb T (Z 2) (lf T (Z 2) (Z 3 + 1)) = gb T (Z 2) (lf T (Z 2) (Z 3 + 1)) by omega)) (cwV 3 hts (gV (fun _ h => h) ml_X0_148 im_X0_cutSign se_X0_cutSign ini_X0 co_X0_cutSign) rfl rfl rfl pd_X0_cutSign ⟨Nat.le_of_ble_eq_true rfl, Nat.le_of_ble_eq_true rfl⟩) (lm_preW hK hP hD hwH) rfl rfl hl.1 rfl (lv_room (Nat.le_of_ble_eq_true rfl)) dX0_cutPiece_189 ⟨Nat.zero_le _, Nat.zero_le _⟩) hD hS hA (fun r_143 u_142 H locs q_141 hP hD hS => ?_)
                        obtain ⟨rfl, rfl⟩ := q_141
                        have hP : va_P (dC, dI) vwCl (lmW cA a0 a1 a2 ((csZ T Z K (gb T (Z 2) (Z 3)) (gb T (Z 2) (lf T (Z 2) (Z 3 + 1))) (lf T (Z 2) (Z 3 + 1))).1, T, (csZ T Z K (gb T (Z 2) (Z 3)) (gb T (Z 2) (lf T (Z 2) (Z 3 + 1))) (lf T (Z 2) (Z 3 + 1))).2.1)) H := hP
                        have hD : va_D A (lmW cA a0 a1 a2 ((csZ T Z K (gb T (Z 2) (Z 3)) (gb T (Z 2) (lf T (Z 2) (Z 3 + 1))) (lf T (Z 2) (Z 3 + 1))).1, T, (csZ T Z K (gb T (Z 2) (Z 3)) (gb T (Z 2) (lf T (Z 2) (Z 3 + 1))) (lf T (Z 2) (Z 3 + 1))).2.1)) := hD
                        have hP : va_P (dC, dI) vwCl (lmW cA a0 a1 a2 ((cpZ T Z K).1, T, (cpZ T Z K).2.1)) H := by rw [cpZ, cpR, if_neg (by omega), if_neg (by rw [c_12]; decide), if_neg (by omega), if_neg (by omega), if_neg (by rw [c_93]; decide), if_neg (fun z => absurd z.2 (by rw [c_128]; decide)), if_neg (by rw [c_131]; decide), if_neg (fun z => by rcases z with z | z; exact absurd z (by rw [c_134]; decide); have := z.1; omega)]; exact hP
                        have hD : va_D A (lmW cA a0 a1 a2 ((cpZ T Z K).1, T, (cpZ T Z K).2.1)) := by rw [cpZ, cpR, if_neg (by omega), if_neg (by rw [c_12]; decide), if_neg (by omega), if_neg (by omega), if_neg (by rw [c_93]; decide), if_neg (fun z => absurd z.2 (by rw [c_128]; decide)), if_neg (by rw [c_131]; decide), if_neg (fun z => by rcases z with z | z; exact absurd z (by rw [c_134]; decide); have := z.1; omega)]; exact hD
                        exact W.iret (v := nI ((csZ T Z K (gb T (Z 2) (Z 3)) (gb T (Z 2) (lf T (Z 2) (Z 3 + 1))) (lf T (Z 2) (Z 3 + 1))).2.2)) hx hb hr (fun t ht hW => ⟨⟨_, ((cpZ T Z K).1, T, (cpZ T Z K).2.1), rfl, ⟨by rw [cpZ, cpR, if_neg (by omega), if_neg (by rw [c_12]; decide), if_neg (by omega), if_neg (by omega), if_neg (by rw [c_93]; decide), if_neg (fun z => absurd z.2 (by rw [c_128]; decide)), if_neg (by rw [c_131]; decide), if_neg (fun z => by rcases z with z | z; exact absurd z (by rw [c_134]; decide); have := z.1; omega)], rfl⟩, by rw [ht]; exact hP, va_K.moved hW.alike hK, hD⟩, hS.F ht⟩) hS.2.2 dX0_cutPiece_192
                      · have c_140 := (bI_eqN (by omega)).mp c_140
                        refine lv_iload_n hx hb dX0_cutPiece_166 rfl (lv_at hl 0 rfl) ?_
                        refine vp_callSi (va_Run.run (va_runS (As := [.int (bI (gb T (Z 2) (lf T (Z 2) (Z 3 + 1))))]) (rest := []) ⟨hx, hb, hml, hown, hts⟩ (c_isDigit l (gb T (Z 2) (lf T (Z 2) (Z 3 + 1)))) (cwS 1 hts (gS (fun _ h => h) ml_X0_142 sm_X0_isDigit ini_X0 co_X0_isDigit) rfl rfl rfl pd_X0_isDigit ⟨Nat.le_of_ble_eq_true rfl, Nat.le_of_ble_eq_true rfl⟩) st_pre rfl rfl hl.1 rfl (lv_room (Nat.le_of_ble_eq_true rfl)) dX0_cutPiece_167 ⟨Nat.zero_le _, Nat.zero_le _⟩)) (fun r_144 (e_145 : r_144 = b2i (isD (gb T (Z 2) (lf T (Z 2) (Z 3 + 1))))) => ?_)
                        subst e_145
                        refine lv_if_eq (tgt := 185) hx hb dX0_cutPiece_170 (by decide) (fun c_146 => ?_) (fun c_146 => ?_)
                        · have c_146 := (b2i_z (isD (gb T (Z 2) (lf T (Z 2) (Z 3 + 1))))).mp c_146
                          refine lv_aload_n hx hb dX0_cutPiece_185 rfl (lv_at hl 3 rfl) ?_
                          refine lv_iload_n hx hb dX0_cutPiece_186 rfl (lv_at hl 2 rfl) ?_
                          refine lv_iload_n hx hb dX0_cutPiece_187 rfl (lv_at hl 0 rfl) ?_
                          refine lv_iload_n hx hb dX0_cutPiece_188 rfl (lv_at hl 1 rfl) ?_
                          have hwH := hw
                          refine lm_calli (va_runV (As := [.int (bI (gb T (Z 2) (Z 3))), .int (bI (gb T (Z 2) (lf T (Z 2) (Z 3 + 1)))), .int (nI (lf T (Z 2) (Z 3 + 1)))]) (rest := []) ⟨hx, hb, hml, hown, hts⟩ (c_cutSign l dC dI cA a0 a1 a2 dK dV A0 s.heap.size Z T K (gb T (Z 2) (Z 3)) (gb T (Z 2) (lf T (Z 2) (Z 3 + 1))) (lf T (Z 2) (Z 3 + 1)) (show Z 2 ≤ 32768 by omega) (show Z 4 < 65536 by omega) (show Z 10 < 2 ^ 29 by omega) (show Z 11 ≤ 1 by omega) (show Z 3 ≤ Z 2 by omega) (show lf T (Z 2) (Z 3 + 1) ≤ Z 2 by omega) (show gb T (Z 2) (lf T (Z 2) (Z 3 + 1)) = gb T (Z 2) (lf T (Z 2) (Z 3 + 1)) by omega)) (cwV 3 hts (gV (fun _ h => h) ml_X0_148 im_X0_cutSign se_X0_cutSign ini_X0 co_X0_cutSign) rfl rfl rfl pd_X0_cutSign ⟨Nat.le_of_ble_eq_true rfl, Nat.le_of_ble_eq_true rfl⟩) (lm_preW hK hP hD hwH) rfl rfl hl.1 rfl (lv_room (Nat.le_of_ble_eq_true rfl)) dX0_cutPiece_189 ⟨Nat.zero_le _, Nat.zero_le _⟩) hD hS hA (fun r_149 u_148 H locs q_147 hP hD hS => ?_)
                          obtain ⟨rfl, rfl⟩ := q_147
                          have hP : va_P (dC, dI) vwCl (lmW cA a0 a1 a2 ((csZ T Z K (gb T (Z 2) (Z 3)) (gb T (Z 2) (lf T (Z 2) (Z 3 + 1))) (lf T (Z 2) (Z 3 + 1))).1, T, (csZ T Z K (gb T (Z 2) (Z 3)) (gb T (Z 2) (lf T (Z 2) (Z 3 + 1))) (lf T (Z 2) (Z 3 + 1))).2.1)) H := hP
                          have hD : va_D A (lmW cA a0 a1 a2 ((csZ T Z K (gb T (Z 2) (Z 3)) (gb T (Z 2) (lf T (Z 2) (Z 3 + 1))) (lf T (Z 2) (Z 3 + 1))).1, T, (csZ T Z K (gb T (Z 2) (Z 3)) (gb T (Z 2) (lf T (Z 2) (Z 3 + 1))) (lf T (Z 2) (Z 3 + 1))).2.1)) := hD
                          have hP : va_P (dC, dI) vwCl (lmW cA a0 a1 a2 ((cpZ T Z K).1, T, (cpZ T Z K).2.1)) H := by rw [cpZ, cpR, if_neg (by omega), if_neg (by rw [c_12]; decide), if_neg (by omega), if_neg (by omega), if_neg (by rw [c_93]; decide), if_neg (fun z => absurd z.2 (by rw [c_128]; decide)), if_neg (by rw [c_131]; decide), if_neg (fun z => by rcases z with z | z; exact absurd z (by rw [c_134]; decide); exact absurd z.2 (by rw [c_146]; decide))]; exact hP
                          have hD : va_D A (lmW cA a0 a1 a2 ((cpZ T Z K).1, T, (cpZ T Z K).2.1)) := by rw [cpZ, cpR, if_neg (by omega), if_neg (by rw [c_12]; decide), if_neg (by omega), if_neg (by omega), if_neg (by rw [c_93]; decide), if_neg (fun z => absurd z.2 (by rw [c_128]; decide)), if_neg (by rw [c_131]; decide), if_neg (fun z => by rcases z with z | z; exact absurd z (by rw [c_134]; decide); exact absurd z.2 (by rw [c_146]; decide))]; exact hD
                          exact W.iret (v := nI ((csZ T Z K (gb T (Z 2) (Z 3)) (gb T (Z 2) (lf T (Z 2) (Z 3 + 1))) (lf T (Z 2) (Z 3 + 1))).2.2)) hx hb hr (fun t ht hW => ⟨⟨_, ((cpZ T Z K).1, T, (cpZ T Z K).2.1), rfl, ⟨by rw [cpZ, cpR, if_neg (by omega), if_neg (by rw [c_12]; decide), if_neg (by omega), if_neg (by omega), if_neg (by rw [c_93]; decide), if_neg (fun z => absurd z.2 (by rw [c_128]; decide)), if_neg (by rw [c_131]; decide), if_neg (fun z => by rcases z with z | z; exact absurd z (by rw [c_134]; decide); exact absurd z.2 (by rw [c_146]; decide))], rfl⟩, by rw [ht]; exact hP, va_K.moved hW.alike hK, hD⟩, hS.F ht⟩) hS.2.2 dX0_cutPiece_192
                        · have c_146 := mt (b2i_z (isD (gb T (Z 2) (lf T (Z 2) (Z 3 + 1))))).mpr c_146
                          refine lv_aload_n hx hb dX0_cutPiece_173 rfl (lv_at hl 3 rfl) ?_
                          refine lv_iconst (v := nI 2) hx hb dX0_cutPiece_174 (by decide) ?_
                          refine lv_aload_n hx hb dX0_cutPiece_175 rfl (lv_at hl 3 rfl) ?_
                          refine lv_iload_n hx hb dX0_cutPiece_176 rfl (lv_at hl 1 rfl) ?_
                          refine lv_iload_n hx hb dX0_cutPiece_177 rfl (lv_at hl 2 rfl) ?_
                          refine vp_callSi (va_Run.run (va_runV (As := [.int (nI (lf T (Z 2) (Z 3 + 1))), .int (bI (gb T (Z 2) (Z 3)))]) (rest := [.int (nI 2), .ref a0]) ⟨hx, hb, hml, hown, hts⟩ (c_numberEnd l dC dI cA a0 a1 a2 Z T K (lf T (Z 2) (Z 3 + 1)) (gb T (Z 2) (Z 3)) (show Z 2 ≤ 32768 by omega) (show lf T (Z 2) (Z 3 + 1) < 2 ^ 30 - 1 by omega)) (cwV 2 hts (gV (fun _ h => h) ml_X0_145 im_X0_numberEnd se_X0_numberEnd ini_X0 co_X0_numberEnd) rfl rfl rfl pd_X0_numberEnd ⟨Nat.le_of_ble_eq_true rfl, Nat.le_of_ble_eq_true rfl⟩) (lm_preR hK hP) rfl rfl hl.1 rfl (lv_room (Nat.le_of_ble_eq_true rfl)) dX0_cutPiece_178 ⟨Nat.zero_le _, Nat.zero_le _⟩)) (fun r_150 (e_151 : r_150 = nI (nuE T (Z 2) (lf T (Z 2) (Z 3 + 1)) (gb T (Z 2) (Z 3)))) => ?_)
                          subst e_151
                          have := nuE_b T (Z 2) (lf T (Z 2) (Z 3 + 1)) (gb T (Z 2) (Z 3))
                          refine lm_calli (va_runV (As := [.int (nI 2), .int (nI (nuE T (Z 2) (lf T (Z 2) (Z 3 + 1)) (gb T (Z 2) (Z 3))))]) (rest := []) ⟨hx, hb, hml, hown, hts⟩ (c_addToken l dC dI cA a0 a1 a2 s.heap.size Z T K 2 (nuE T (Z 2) (lf T (Z 2) (Z 3 + 1)) (gb T (Z 2) (Z 3))) (show Z 2 ≤ 32768 by omega) (show nuE T (Z 2) (lf T (Z 2) (Z 3 + 1)) (gb T (Z 2) (Z 3)) ≤ Z 2 by omega) (show Z 3 ≤ Z 2 by omega) (show Z 4 < 65536 by omega) (show Z 10 < 2 ^ 29 by omega) (show Z 11 ≤ 1 by omega) (show 2 < 16 by omega)) (cwV 2 hts (gV (fun _ h => h) ml_X0_139 im_X0_addToken se_X0_addToken ini_X0 co_X0_addToken) rfl rfl rfl pd_X0_addToken ⟨Nat.le_of_ble_eq_true rfl, Nat.le_of_ble_eq_true rfl⟩) (lm_preS hK hP hD) rfl rfl hl.1 rfl (lv_room (Nat.le_of_ble_eq_true rfl)) dX0_cutPiece_181 ⟨Nat.zero_le _, Nat.zero_le _⟩) hD hS hA (fun r_154 u_153 H locs q_152 hP hD hS => ?_)
                          obtain ⟨rfl, rfl⟩ := q_152
                          have hP : va_P (dC, dI) vwCl (lmW cA a0 a1 a2 ((adZ T Z (nuE T (Z 2) (lf T (Z 2) (Z 3 + 1)) (gb T (Z 2) (Z 3)))), T, (adK T Z K 2 (nuE T (Z 2) (lf T (Z 2) (Z 3 + 1)) (gb T (Z 2) (Z 3)))))) H := hP
                          have hD : va_D A (lmW cA a0 a1 a2 ((adZ T Z (nuE T (Z 2) (lf T (Z 2) (Z 3 + 1)) (gb T (Z 2) (Z 3)))), T, (adK T Z K 2 (nuE T (Z 2) (lf T (Z 2) (Z 3 + 1)) (gb T (Z 2) (Z 3)))))) := hD
                          have hP : va_P (dC, dI) vwCl (lmW cA a0 a1 a2 ((cpZ T Z K).1, T, (cpZ T Z K).2.1)) H := by rw [cpZ, cpR, if_neg (by omega), if_neg (by rw [c_12]; decide), if_neg (by omega), if_neg (by omega), if_neg (by rw [c_93]; decide), if_neg (fun z => absurd z.2 (by rw [c_128]; decide)), if_neg (by rw [c_131]; decide), if_pos (Or.inr ⟨by omega, by simpa using c_146⟩)]; exact hP
                          have hD : va_D A (lmW cA a0 a1 a2 ((cpZ T Z K).1, T, (cpZ T Z K).2.1)) := by rw [cpZ, cpR, if_neg (by omega), if_neg (by rw [c_12]; decide), if_neg (by omega), if_neg (by omega), if_neg (by rw [c_93]; decide), if_neg (fun z => absurd z.2 (by rw [c_128]; decide)), if_neg (by rw [c_131]; decide), if_pos (Or.inr ⟨by omega, by simpa using c_146⟩)]; exact hD
                          exact W.iret (v := nI 0) hx hb hr (fun t ht hW => ⟨⟨_, ((cpZ T Z K).1, T, (cpZ T Z K).2.1), rfl, ⟨by rw [cpZ, cpR, if_neg (by omega), if_neg (by rw [c_12]; decide), if_neg (by omega), if_neg (by omega), if_neg (by rw [c_93]; decide), if_neg (fun z => absurd z.2 (by rw [c_128]; decide)), if_neg (by rw [c_131]; decide), if_pos (Or.inr ⟨by omega, by simpa using c_146⟩)], rfl⟩, by rw [ht]; exact hP, va_K.moved hW.alike hK, hD⟩, hS.F ht⟩) hS.2.2 dX0_cutPiece_184
                  · have c_131 := mt (b2i_z (isL (gb T (Z 2) (Z 3)))).mpr c_131
                    refine lv_aload_n hx hb dX0_cutPiece_142 rfl (lv_at hl 3 rfl) ?_
                    refine lv_iconst (v := nI 1) hx hb dX0_cutPiece_143 (by decide) ?_
                    refine lv_aload_n hx hb dX0_cutPiece_144 rfl (lv_at hl 3 rfl) ?_
                    refine lv_iload_n hx hb dX0_cutPiece_145 rfl (lv_at hl 1 rfl) ?_
                    refine vp_callSi (va_Run.run (va_runV (As := [.int (nI (lf T (Z 2) (Z 3 + 1)))]) (rest := [.int (nI 1), .ref a0]) ⟨hx, hb, hml, hown, hts⟩ (c_nameEnd l dC dI cA a0 a1 a2 Z T K (lf T (Z 2) (Z 3 + 1)) (show Z 2 ≤ 32768 by omega) (show lf T (Z 2) (Z 3 + 1) < 2 ^ 30 - 1 by omega)) (cwV 1 hts (gV (fun _ h => h) ml_X0_136 im_X0_nameEnd se_X0_nameEnd ini_X0 co_X0_nameEnd) rfl rfl rfl pd_X0_nameEnd ⟨Nat.le_of_ble_eq_true rfl, Nat.le_of_ble_eq_true rfl⟩) (lm_preR hK hP) rfl rfl hl.1 rfl (lv_room (Nat.le_of_ble_eq_true rfl)) dX0_cutPiece_146 ⟨Nat.zero_le _, Nat.zero_le _⟩)) (fun r_155 (e_156 : r_155 = nI (nmE T (Z 2) (lf T (Z 2) (Z 3 + 1)))) => ?_)
                    subst e_156
                    have := nmE_b T (Z 2) (lf T (Z 2) (Z 3 + 1))
                    refine lm_calli (va_runV (As := [.int (nI 1), .int (nI (nmE T (Z 2) (lf T (Z 2) (Z 3 + 1))))]) (rest := []) ⟨hx, hb, hml, hown, hts⟩ (c_addToken l dC dI cA a0 a1 a2 s.heap.size Z T K 1 (nmE T (Z 2) (lf T (Z 2) (Z 3 + 1))) (show Z 2 ≤ 32768 by omega) (show nmE T (Z 2) (lf T (Z 2) (Z 3 + 1)) ≤ Z 2 by omega) (show Z 3 ≤ Z 2 by omega) (show Z 4 < 65536 by omega) (show Z 10 < 2 ^ 29 by omega) (show Z 11 ≤ 1 by omega) (show 1 < 16 by omega)) (cwV 2 hts (gV (fun _ h => h) ml_X0_139 im_X0_addToken se_X0_addToken ini_X0 co_X0_addToken) rfl rfl rfl pd_X0_addToken ⟨Nat.le_of_ble_eq_true rfl, Nat.le_of_ble_eq_true rfl⟩) (lm_preS hK hP hD) rfl rfl hl.1 rfl (lv_room (Nat.le_of_ble_eq_true rfl)) dX0_cutPiece_149 ⟨Nat.zero_le _, Nat.zero_le _⟩) hD hS hA (fun r_159 u_158 H locs q_157 hP hD hS => ?_)
                    obtain ⟨rfl, rfl⟩ := q_157
                    have hP : va_P (dC, dI) vwCl (lmW cA a0 a1 a2 ((adZ T Z (nmE T (Z 2) (lf T (Z 2) (Z 3 + 1)))), T, (adK T Z K 1 (nmE T (Z 2) (lf T (Z 2) (Z 3 + 1)))))) H := hP
                    have hD : va_D A (lmW cA a0 a1 a2 ((adZ T Z (nmE T (Z 2) (lf T (Z 2) (Z 3 + 1)))), T, (adK T Z K 1 (nmE T (Z 2) (lf T (Z 2) (Z 3 + 1)))))) := hD
                    have hP : va_P (dC, dI) vwCl (lmW cA a0 a1 a2 ((cpZ T Z K).1, T, (cpZ T Z K).2.1)) H := by rw [cpZ, cpR, if_neg (by omega), if_neg (by rw [c_12]; decide), if_neg (by omega), if_neg (by omega), if_neg (by rw [c_93]; decide), if_neg (fun z => absurd z.2 (by rw [c_128]; decide)), if_pos (by simpa using c_131)]; exact hP
                    have hD : va_D A (lmW cA a0 a1 a2 ((cpZ T Z K).1, T, (cpZ T Z K).2.1)) := by rw [cpZ, cpR, if_neg (by omega), if_neg (by rw [c_12]; decide), if_neg (by omega), if_neg (by omega), if_neg (by rw [c_93]; decide), if_neg (fun z => absurd z.2 (by rw [c_128]; decide)), if_pos (by simpa using c_131)]; exact hD
                    exact W.iret (v := nI 0) hx hb hr (fun t ht hW => ⟨⟨_, ((cpZ T Z K).1, T, (cpZ T Z K).2.1), rfl, ⟨by rw [cpZ, cpR, if_neg (by omega), if_neg (by rw [c_12]; decide), if_neg (by omega), if_neg (by omega), if_neg (by rw [c_93]; decide), if_neg (fun z => absurd z.2 (by rw [c_128]; decide)), if_pos (by simpa using c_131)], rfl⟩, by rw [ht]; exact hP, va_K.moved hW.alike hK, hD⟩, hS.F ht⟩) hS.2.2 dX0_cutPiece_152
                · have c_128 := mt (b2i_z (isQ (gb T (Z 2) (lf T (Z 2) (Z 3 + 1))))).mpr c_128
                  have := isQ_lt (show isQ (gb T (Z 2) (lf T (Z 2) (Z 3 + 1))) = true by simpa using c_128)
                  refine lv_aload_n hx hb dX0_cutPiece_128 rfl (lv_at hl 3 rfl) ?_
                  refine lv_iload_n hx hb dX0_cutPiece_129 rfl (lv_at hl 1 rfl) ?_
                  refine lv_iload_n hx hb dX0_cutPiece_130 rfl (lv_at hl 0 rfl) ?_
                  refine lm_calli (va_runV (As := [.int (nI (lf T (Z 2) (Z 3 + 1))), .int (bI (gb T (Z 2) (lf T (Z 2) (Z 3 + 1))))]) (rest := []) ⟨hx, hb, hml, hown, hts⟩ (c_cutWide l dC dI cA a0 a1 a2 s.heap.size Z T K (lf T (Z 2) (Z 3 + 1)) (gb T (Z 2) (lf T (Z 2) (Z 3 + 1))) (show Z 2 ≤ 32768 by omega) (show gb T (Z 2) (lf T (Z 2) (Z 3 + 1)) < 256 by omega) (show Z 4 < 65536 by omega) (show Z 6 < 2 ^ 29 by omega) (show Z 10 < 2 ^ 29 by omega) (show Z 11 ≤ 1 by omega) (show Z 14 < 2 ^ 29 by omega) (show Z 15 < 2 ^ 29 by omega) (show Z 3 ≤ Z 2 by omega) (show lf T (Z 2) (Z 3 + 1) < Z 2 by omega)) (cwV 2 hts (gV (fun _ h => h) ml_X0_130 im_X0_cutWide se_X0_cutWide ini_X0 co_X0_cutWide) rfl rfl rfl pd_X0_cutWide ⟨Nat.le_of_ble_eq_true rfl, Nat.le_of_ble_eq_true rfl⟩) (lm_preS hK hP hD) rfl rfl hl.1 rfl (lv_room (Nat.le_of_ble_eq_true rfl)) dX0_cutPiece_131 ⟨Nat.zero_le _, Nat.zero_le _⟩) hD hS hA (fun r_162 u_161 H locs q_160 hP hD hS => ?_)
                  obtain ⟨rfl, rfl⟩ := q_160
                  have hP : va_P (dC, dI) vwCl (lmW cA a0 a1 a2 ((cwZ T Z K (lf T (Z 2) (Z 3 + 1)) (gb T (Z 2) (lf T (Z 2) (Z 3 + 1)))).1, T, (cwZ T Z K (lf T (Z 2) (Z 3 + 1)) (gb T (Z 2) (lf T (Z 2) (Z 3 + 1)))).2.1)) H := hP
                  have hD : va_D A (lmW cA a0 a1 a2 ((cwZ T Z K (lf T (Z 2) (Z 3 + 1)) (gb T (Z 2) (lf T (Z 2) (Z 3 + 1)))).1, T, (cwZ T Z K (lf T (Z 2) (Z 3 + 1)) (gb T (Z 2) (lf T (Z 2) (Z 3 + 1)))).2.1)) := hD
                  have hP : va_P (dC, dI) vwCl (lmW cA a0 a1 a2 ((cpZ T Z K).1, T, (cpZ T Z K).2.1)) H := by rw [cpZ, cpR, if_neg (by omega), if_neg (by rw [c_12]; decide), if_neg (by omega), if_neg (by omega), if_neg (by rw [c_93]; decide), if_pos ⟨by omega, by simpa using c_128⟩]; exact hP
                  have hD : va_D A (lmW cA a0 a1 a2 ((cpZ T Z K).1, T, (cpZ T Z K).2.1)) := by rw [cpZ, cpR, if_neg (by omega), if_neg (by rw [c_12]; decide), if_neg (by omega), if_neg (by omega), if_neg (by rw [c_93]; decide), if_pos ⟨by omega, by simpa using c_128⟩]; exact hD
                  exact W.iret (v := nI ((cwZ T Z K (lf T (Z 2) (Z 3 + 1)) (gb T (Z 2) (lf T (Z 2) (Z 3 + 1)))).2.2)) hx hb hr (fun t ht hW => ⟨⟨_, ((cpZ T Z K).1, T, (cpZ T Z K).2.1), rfl, ⟨by rw [cpZ, cpR, if_neg (by omega), if_neg (by rw [c_12]; decide), if_neg (by omega), if_neg (by omega), if_neg (by rw [c_93]; decide), if_pos ⟨by omega, by simpa using c_128⟩], rfl⟩, by rw [ht]; exact hP, va_K.moved hW.alike hK, hD⟩, hS.F ht⟩) hS.2.2 dX0_cutPiece_134
            · have c_93 := mt (b2i_z (isQ (gb T (Z 2) (Z 3)))).mpr c_93
              refine lv_aload_n hx hb dX0_cutPiece_109 rfl (lv_at hl 3 rfl) ?_
              refine lv_iload_n hx hb dX0_cutPiece_110 rfl (lv_at hl 2 rfl) ?_
              refine lm_calli (va_runV (As := [.int (bI (gb T (Z 2) (Z 3)))]) (rest := []) ⟨hx, hb, hml, hown, hts⟩ (c_cutQuote l dC dI cA a0 a1 a2 s.heap.size Z T K (gb T (Z 2) (Z 3)) (show Z 2 ≤ 32768 by omega) (show gb T (Z 2) (Z 3) < 256 by omega) (show Z 4 < 65536 by omega) (show Z 6 < 2 ^ 29 by omega) (show Z 10 < 2 ^ 29 by omega) (show Z 11 ≤ 1 by omega) (show Z 14 < 2 ^ 29 by omega) (show Z 15 < 2 ^ 29 by omega) (show Z 3 < Z 2 by omega)) (cwV 1 hts (gV (fun _ h => h) ml_X0_127 im_X0_cutQuote se_X0_cutQuote ini_X0 co_X0_cutQuote) rfl rfl rfl pd_X0_cutQuote ⟨Nat.le_of_ble_eq_true rfl, Nat.le_of_ble_eq_true rfl⟩) (lm_preS hK hP hD) rfl rfl hl.1 rfl (lv_room (Nat.le_of_ble_eq_true rfl)) dX0_cutPiece_111 ⟨Nat.zero_le _, Nat.zero_le _⟩) hD hS hA (fun r_165 u_164 H locs q_163 hP hD hS => ?_)
              obtain ⟨rfl, rfl⟩ := q_163
              have hP : va_P (dC, dI) vwCl (lmW cA a0 a1 a2 ((cqZ T Z K (gb T (Z 2) (Z 3))).1, T, (cqZ T Z K (gb T (Z 2) (Z 3))).2.1)) H := hP
              have hD : va_D A (lmW cA a0 a1 a2 ((cqZ T Z K (gb T (Z 2) (Z 3))).1, T, (cqZ T Z K (gb T (Z 2) (Z 3))).2.1)) := hD
              have hP : va_P (dC, dI) vwCl (lmW cA a0 a1 a2 ((cpZ T Z K).1, T, (cpZ T Z K).2.1)) H := by rw [cpZ, cpR, if_neg (by omega), if_neg (by rw [c_12]; decide), if_neg (by omega), if_neg (by omega), if_pos (by simpa using c_93)]; exact hP
              have hD : va_D A (lmW cA a0 a1 a2 ((cpZ T Z K).1, T, (cpZ T Z K).2.1)) := by rw [cpZ, cpR, if_neg (by omega), if_neg (by rw [c_12]; decide), if_neg (by omega), if_neg (by omega), if_pos (by simpa using c_93)]; exact hD
              exact W.iret (v := nI ((cqZ T Z K (gb T (Z 2) (Z 3))).2.2)) hx hb hr (fun t ht hW => ⟨⟨_, ((cpZ T Z K).1, T, (cpZ T Z K).2.1), rfl, ⟨by rw [cpZ, cpR, if_neg (by omega), if_neg (by rw [c_12]; decide), if_neg (by omega), if_neg (by omega), if_pos (by simpa using c_93)], rfl⟩, by rw [ht]; exact hP, va_K.moved hW.alike hK, hD⟩, hS.F ht⟩) hS.2.2 dX0_cutPiece_114
          · have c_90 := (bI_eqN (by omega)).mp c_90
            refine lv_aload_n hx hb dX0_cutPiece_92 rfl (lv_at hl 3 rfl) ?_
            refine lv_aload_n hx hb dX0_cutPiece_93 rfl (lv_at hl 3 rfl) ?_
            refine lv_iload_n hx hb dX0_cutPiece_94 rfl (lv_at hl 1 rfl) ?_
            refine vp_callSi (va_Run.run (va_runV (As := [.int (nI (lf T (Z 2) (Z 3 + 1)))]) (rest := [.ref a0]) ⟨hx, hb, hml, hown, hts⟩ (c_lineEnd l dC dI cA a0 a1 a2 Z T K (lf T (Z 2) (Z 3 + 1)) (show Z 2 ≤ 32768 by omega) (show lf T (Z 2) (Z 3 + 1) < 2 ^ 30 - 1 by omega)) (cwV 1 hts (gV (fun _ h => h) ml_X0_121 im_X0_lineEnd se_X0_lineEnd ini_X0 co_X0_lineEnd) rfl rfl rfl pd_X0_lineEnd ⟨Nat.le_of_ble_eq_true rfl, Nat.le_of_ble_eq_true rfl⟩) (lm_preR hK hP) rfl rfl hl.1 rfl (lv_room (Nat.le_of_ble_eq_true rfl)) dX0_cutPiece_95 ⟨Nat.zero_le _, Nat.zero_le _⟩)) (fun r_166 (e_167 : r_166 = nI (lnE T (Z 2) (lf T (Z 2) (Z 3 + 1)))) => ?_)
            subst e_167
            have := lnE_b T (Z 2) (lf T (Z 2) (Z 3 + 1))
            refine lm_calli (va_runV (As := [.int (nI (lnE T (Z 2) (lf T (Z 2) (Z 3 + 1))))]) (rest := []) ⟨hx, hb, hml, hown, hts⟩ (c_passBlank l dC dI cA a0 a1 a2 s.heap.size Z T K (lnE T (Z 2) (lf T (Z 2) (Z 3 + 1))) (show Z 2 ≤ 32768 by omega) (show lnE T (Z 2) (lf T (Z 2) (Z 3 + 1)) < 2 ^ 29 by omega) (show Z 3 < 2 ^ 29 by omega)) (cwV 1 hts (gV (fun _ h => h) ml_X0_112 im_X0_passBlank se_X0_passBlank ini_X0 co_X0_passBlank) rfl rfl rfl pd_X0_passBlank ⟨Nat.le_of_ble_eq_true rfl, Nat.le_of_ble_eq_true rfl⟩) (lm_preS hK hP hD) rfl rfl hl.1 rfl (lv_room (Nat.le_of_ble_eq_true rfl)) dX0_cutPiece_98 ⟨Nat.zero_le _, Nat.zero_le _⟩) hD hS hA (fun r_170 u_169 H locs q_168 hP hD hS => ?_)
            obtain ⟨rfl, rfl⟩ := q_168
            have hP : va_P (dC, dI) vwCl (lmW cA a0 a1 a2 ((pbZ T Z (lnE T (Z 2) (lf T (Z 2) (Z 3 + 1)))), T, K)) H := hP
            have hD : va_D A (lmW cA a0 a1 a2 ((pbZ T Z (lnE T (Z 2) (lf T (Z 2) (Z 3 + 1)))), T, K)) := hD
            have hP : va_P (dC, dI) vwCl (lmW cA a0 a1 a2 ((cpZ T Z K).1, T, (cpZ T Z K).2.1)) H := by rw [cpZ, cpR, if_neg (by omega), if_neg (by rw [c_12]; decide), if_neg (by omega), if_pos (by omega)]; exact hP
            have hD : va_D A (lmW cA a0 a1 a2 ((cpZ T Z K).1, T, (cpZ T Z K).2.1)) := by rw [cpZ, cpR, if_neg (by omega), if_neg (by rw [c_12]; decide), if_neg (by omega), if_pos (by omega)]; exact hD
            exact W.iret (v := nI 0) hx hb hr (fun t ht hW => ⟨⟨_, ((cpZ T Z K).1, T, (cpZ T Z K).2.1), rfl, ⟨by rw [cpZ, cpR, if_neg (by omega), if_neg (by rw [c_12]; decide), if_neg (by omega), if_pos (by omega)], rfl⟩, by rw [ht]; exact hP, va_K.moved hW.alike hK, hD⟩, hS.F ht⟩) hS.2.2 dX0_cutPiece_101
      · have c_13 := (bI_eqN (by omega)).mp c_13
        refine lv_iload_n hx hb dX0_cutPiece_62 rfl (lv_at hl 0 rfl) ?_
        refine lv_bipush (v := nI 42) hx hb dX0_cutPiece_63 (by decide) ?_
        refine lv_icmp_ne (tgt := 80) hx hb dX0_cutPiece_65 (by decide) (fun c_171 => ?_) (fun c_171 => ?_)
        · have c_171 := mt (bI_eqN (by omega)).mpr c_171
          refine lv_iload_n hx hb dX0_cutPiece_80 rfl (lv_at hl 2 rfl) ?_
          refine lv_bipush (v := nI 47) hx hb dX0_cutPiece_81 (by decide) ?_
          refine lv_icmp_ne (tgt := 102) hx hb dX0_cutPiece_83 (by decide) (fun c_172 => ?_) (fun c_172 => ?_)
          · have c_172 := mt (bI_eqN (by omega)).mpr c_172
            refine lv_iload_n hx hb dX0_cutPiece_102 rfl (lv_at hl 2 rfl) ?_
            refine vp_callSi (va_Run.run (va_runS (As := [.int (bI (gb T (Z 2) (Z 3)))]) (rest := []) ⟨hx, hb, hml, hown, hts⟩ (c_isQuote l (gb T (Z 2) (Z 3))) (cwS 1 hts (gS (fun _ h => h) ml_X0_124 sm_X0_isQuote ini_X0 co_X0_isQuote) rfl rfl rfl pd_X0_isQuote ⟨Nat.le_of_ble_eq_true rfl, Nat.le_of_ble_eq_true rfl⟩) st_pre rfl rfl hl.1 rfl (lv_room (Nat.le_of_ble_eq_true rfl)) dX0_cutPiece_103 ⟨Nat.zero_le _, Nat.zero_le _⟩)) (fun r_173 (e_174 : r_173 = b2i (isQ (gb T (Z 2) (Z 3)))) => ?_)
            subst e_174
            refine lv_if_eq (tgt := 115) hx hb dX0_cutPiece_106 (by decide) (fun c_175 => ?_) (fun c_175 => ?_)
            · have c_175 := (b2i_z (isQ (gb T (Z 2) (Z 3)))).mp c_175
              refine lv_iload_n hx hb dX0_cutPiece_115 rfl (lv_at hl 2 rfl) ?_
              refine lv_bipush (v := nI 76) hx hb dX0_cutPiece_116 (by decide) ?_
              refine lv_icmp_ne (tgt := 135) hx hb dX0_cutPiece_118 (by decide) (fun c_176 => ?_) (fun c_176 => ?_)
              · have c_176 := mt (bI_eqN (by omega)).mpr c_176
                refine lv_iload_n hx hb dX0_cutPiece_135 rfl (lv_at hl 2 rfl) ?_
                refine vp_callSi (va_Run.run (va_runS (As := [.int (bI (gb T (Z 2) (Z 3)))]) (rest := []) ⟨hx, hb, hml, hown, hts⟩ (c_isLetter l (gb T (Z 2) (Z 3))) (cwS 1 hts (gS (fun _ h => h) ml_X0_133 sm_X0_isLetter ini_X0 co_X0_isLetter) rfl rfl rfl pd_X0_isLetter ⟨Nat.le_of_ble_eq_true rfl, Nat.le_of_ble_eq_true rfl⟩) st_pre rfl rfl hl.1 rfl (lv_room (Nat.le_of_ble_eq_true rfl)) dX0_cutPiece_136 ⟨Nat.zero_le _, Nat.zero_le _⟩)) (fun r_177 (e_178 : r_177 = b2i (isL (gb T (Z 2) (Z 3)))) => ?_)
                subst e_178
                refine lv_if_eq (tgt := 153) hx hb dX0_cutPiece_139 (by decide) (fun c_179 => ?_) (fun c_179 => ?_)
                · have c_179 := (b2i_z (isL (gb T (Z 2) (Z 3)))).mp c_179
                  refine lv_iload_n hx hb dX0_cutPiece_153 rfl (lv_at hl 2 rfl) ?_
                  refine vp_callSi (va_Run.run (va_runS (As := [.int (bI (gb T (Z 2) (Z 3)))]) (rest := []) ⟨hx, hb, hml, hown, hts⟩ (c_isDigit l (gb T (Z 2) (Z 3))) (cwS 1 hts (gS (fun _ h => h) ml_X0_142 sm_X0_isDigit ini_X0 co_X0_isDigit) rfl rfl rfl pd_X0_isDigit ⟨Nat.le_of_ble_eq_true rfl, Nat.le_of_ble_eq_true rfl⟩) st_pre rfl rfl hl.1 rfl (lv_room (Nat.le_of_ble_eq_true rfl)) dX0_cutPiece_154 ⟨Nat.zero_le _, Nat.zero_le _⟩)) (fun r_180 (e_181 : r_180 = b2i (isD (gb T (Z 2) (Z 3)))) => ?_)
                  subst e_181
                  refine lv_if_ne (tgt := 173) hx hb dX0_cutPiece_157 (by decide) (fun c_182 => ?_) (fun c_182 => ?_)
                  · have c_182 := mt (b2i_z (isD (gb T (Z 2) (Z 3)))).mpr c_182
                    refine lv_aload_n hx hb dX0_cutPiece_173 rfl (lv_at hl 3 rfl) ?_
                    refine lv_iconst (v := nI 2) hx hb dX0_cutPiece_174 (by decide) ?_
                    refine lv_aload_n hx hb dX0_cutPiece_175 rfl (lv_at hl 3 rfl) ?_
                    refine lv_iload_n hx hb dX0_cutPiece_176 rfl (lv_at hl 1 rfl) ?_
                    refine lv_iload_n hx hb dX0_cutPiece_177 rfl (lv_at hl 2 rfl) ?_
                    refine vp_callSi (va_Run.run (va_runV (As := [.int (nI (lf T (Z 2) (Z 3 + 1))), .int (bI (gb T (Z 2) (Z 3)))]) (rest := [.int (nI 2), .ref a0]) ⟨hx, hb, hml, hown, hts⟩ (c_numberEnd l dC dI cA a0 a1 a2 Z T K (lf T (Z 2) (Z 3 + 1)) (gb T (Z 2) (Z 3)) (show Z 2 ≤ 32768 by omega) (show lf T (Z 2) (Z 3 + 1) < 2 ^ 30 - 1 by omega)) (cwV 2 hts (gV (fun _ h => h) ml_X0_145 im_X0_numberEnd se_X0_numberEnd ini_X0 co_X0_numberEnd) rfl rfl rfl pd_X0_numberEnd ⟨Nat.le_of_ble_eq_true rfl, Nat.le_of_ble_eq_true rfl⟩) (lm_preR hK hP) rfl rfl hl.1 rfl (lv_room (Nat.le_of_ble_eq_true rfl)) dX0_cutPiece_178 ⟨Nat.zero_le _, Nat.zero_le _⟩)) (fun r_183 (e_184 : r_183 = nI (nuE T (Z 2) (lf T (Z 2) (Z 3 + 1)) (gb T (Z 2) (Z 3)))) => ?_)
                    subst e_184
                    have := nuE_b T (Z 2) (lf T (Z 2) (Z 3 + 1)) (gb T (Z 2) (Z 3))
                    refine lm_calli (va_runV (As := [.int (nI 2), .int (nI (nuE T (Z 2) (lf T (Z 2) (Z 3 + 1)) (gb T (Z 2) (Z 3))))]) (rest := []) ⟨hx, hb, hml, hown, hts⟩ (c_addToken l dC dI cA a0 a1 a2 s.heap.size Z T K 2 (nuE T (Z 2) (lf T (Z 2) (Z 3 + 1)) (gb T (Z 2) (Z 3))) (show Z 2 ≤ 32768 by omega) (show nuE T (Z 2) (lf T (Z 2) (Z 3 + 1)) (gb T (Z 2) (Z 3)) ≤ Z 2 by omega) (show Z 3 ≤ Z 2 by omega) (show Z 4 < 65536 by omega) (show Z 10 < 2 ^ 29 by omega) (show Z 11 ≤ 1 by omega) (show 2 < 16 by omega)) (cwV 2 hts (gV (fun _ h => h) ml_X0_139 im_X0_addToken se_X0_addToken ini_X0 co_X0_addToken) rfl rfl rfl pd_X0_addToken ⟨Nat.le_of_ble_eq_true rfl, Nat.le_of_ble_eq_true rfl⟩) (lm_preS hK hP hD) rfl rfl hl.1 rfl (lv_room (Nat.le_of_ble_eq_true rfl)) dX0_cutPiece_181 ⟨Nat.zero_le _, Nat.zero_le _⟩) hD hS hA (fun r_187 u_186 H locs q_185 hP hD hS => ?_)
                    obtain ⟨rfl, rfl⟩ := q_185
                    have hP : va_P (dC, dI) vwCl (lmW cA a0 a1 a2 ((adZ T Z (nuE T (Z 2) (lf T (Z 2) (Z 3 + 1)) (gb T (Z 2) (Z 3)))), T, (adK T Z K 2 (nuE T (Z 2) (lf T (Z 2) (Z 3 + 1)) (gb T (Z 2) (Z 3)))))) H := hP
                    have hD : va_D A (lmW cA a0 a1 a2 ((adZ T Z (nuE T (Z 2) (lf T (Z 2) (Z 3 + 1)) (gb T (Z 2) (Z 3)))), T, (adK T Z K 2 (nuE T (Z 2) (lf T (Z 2) (Z 3 + 1)) (gb T (Z 2) (Z 3)))))) := hD
                    have hP : va_P (dC, dI) vwCl (lmW cA a0 a1 a2 ((cpZ T Z K).1, T, (cpZ T Z K).2.1)) H := by rw [cpZ, cpR, if_neg (by omega), if_neg (by rw [c_12]; decide), if_neg (by omega), if_neg (by omega), if_neg (by rw [c_175]; decide), if_neg (fun z => by have := z.1; omega), if_neg (by rw [c_179]; decide), if_pos (Or.inl (by simpa using c_182))]; exact hP
                    have hD : va_D A (lmW cA a0 a1 a2 ((cpZ T Z K).1, T, (cpZ T Z K).2.1)) := by rw [cpZ, cpR, if_neg (by omega), if_neg (by rw [c_12]; decide), if_neg (by omega), if_neg (by omega), if_neg (by rw [c_175]; decide), if_neg (fun z => by have := z.1; omega), if_neg (by rw [c_179]; decide), if_pos (Or.inl (by simpa using c_182))]; exact hD
                    exact W.iret (v := nI 0) hx hb hr (fun t ht hW => ⟨⟨_, ((cpZ T Z K).1, T, (cpZ T Z K).2.1), rfl, ⟨by rw [cpZ, cpR, if_neg (by omega), if_neg (by rw [c_12]; decide), if_neg (by omega), if_neg (by omega), if_neg (by rw [c_175]; decide), if_neg (fun z => by have := z.1; omega), if_neg (by rw [c_179]; decide), if_pos (Or.inl (by simpa using c_182))], rfl⟩, by rw [ht]; exact hP, va_K.moved hW.alike hK, hD⟩, hS.F ht⟩) hS.2.2 dX0_cutPiece_184
                  · have c_182 := (b2i_z (isD (gb T (Z 2) (Z 3)))).mp c_182
                    refine lv_iload_n hx hb dX0_cutPiece_160 rfl (lv_at hl 2 rfl) ?_
                    refine lv_bipush (v := nI 46) hx hb dX0_cutPiece_161 (by decide) ?_
                    refine lv_icmp_ne (tgt := 185) hx hb dX0_cutPiece_163 (by decide) (fun c_188 => ?_) (fun c_188 => ?_)
                    · have c_188 := mt (bI_eqN (by omega)).mpr c_188
                      refine lv_aload_n hx hb dX0_cutPiece_185 rfl (lv_at hl 3 rfl) ?_
                      refine lv_iload_n hx hb dX0_cutPiece_186 rfl (lv_at hl 2 rfl) ?_
                      refine lv_iload_n hx hb dX0_cutPiece_187 rfl (lv_at hl 0 rfl) ?_
                      refine lv_iload_n hx hb dX0_cutPiece_188 rfl (lv_at hl 1 rfl) ?_
                      have hwH := hw
                      refine lm_calli (va_runV (As := [.int (bI (gb T (Z 2) (Z 3))), .int (bI (gb T (Z 2) (lf T (Z 2) (Z 3 + 1)))), .int (nI (lf T (Z 2) (Z 3 + 1)))]) (rest := []) ⟨hx, hb, hml, hown, hts⟩ (c_cutSign l dC dI cA a0 a1 a2 dK dV A0 s.heap.size Z T K (gb T (Z 2) (Z 3)) (gb T (Z 2) (lf T (Z 2) (Z 3 + 1))) (lf T (Z 2) (Z 3 + 1)) (show Z 2 ≤ 32768 by omega) (show Z 4 < 65536 by omega) (show Z 10 < 2 ^ 29 by omega) (show Z 11 ≤ 1 by omega) (show Z 3 ≤ Z 2 by omega) (show lf T (Z 2) (Z 3 + 1) ≤ Z 2 by omega) (show gb T (Z 2) (lf T (Z 2) (Z 3 + 1)) = gb T (Z 2) (lf T (Z 2) (Z 3 + 1)) by omega)) (cwV 3 hts (gV (fun _ h => h) ml_X0_148 im_X0_cutSign se_X0_cutSign ini_X0 co_X0_cutSign) rfl rfl rfl pd_X0_cutSign ⟨Nat.le_of_ble_eq_true rfl, Nat.le_of_ble_eq_true rfl⟩) (lm_preW hK hP hD hwH) rfl rfl hl.1 rfl (lv_room (Nat.le_of_ble_eq_true rfl)) dX0_cutPiece_189 ⟨Nat.zero_le _, Nat.zero_le _⟩) hD hS hA (fun r_191 u_190 H locs q_189 hP hD hS => ?_)
                      obtain ⟨rfl, rfl⟩ := q_189
                      have hP : va_P (dC, dI) vwCl (lmW cA a0 a1 a2 ((csZ T Z K (gb T (Z 2) (Z 3)) (gb T (Z 2) (lf T (Z 2) (Z 3 + 1))) (lf T (Z 2) (Z 3 + 1))).1, T, (csZ T Z K (gb T (Z 2) (Z 3)) (gb T (Z 2) (lf T (Z 2) (Z 3 + 1))) (lf T (Z 2) (Z 3 + 1))).2.1)) H := hP
                      have hD : va_D A (lmW cA a0 a1 a2 ((csZ T Z K (gb T (Z 2) (Z 3)) (gb T (Z 2) (lf T (Z 2) (Z 3 + 1))) (lf T (Z 2) (Z 3 + 1))).1, T, (csZ T Z K (gb T (Z 2) (Z 3)) (gb T (Z 2) (lf T (Z 2) (Z 3 + 1))) (lf T (Z 2) (Z 3 + 1))).2.1)) := hD
                      have hP : va_P (dC, dI) vwCl (lmW cA a0 a1 a2 ((cpZ T Z K).1, T, (cpZ T Z K).2.1)) H := by rw [cpZ, cpR, if_neg (by omega), if_neg (by rw [c_12]; decide), if_neg (by omega), if_neg (by omega), if_neg (by rw [c_175]; decide), if_neg (fun z => by have := z.1; omega), if_neg (by rw [c_179]; decide), if_neg (fun z => by rcases z with z | z; exact absurd z (by rw [c_182]; decide); have := z.1; omega)]; exact hP
                      have hD : va_D A (lmW cA a0 a1 a2 ((cpZ T Z K).1, T, (cpZ T Z K).2.1)) := by rw [cpZ, cpR, if_neg (by omega), if_neg (by rw [c_12]; decide), if_neg (by omega), if_neg (by omega), if_neg (by rw [c_175]; decide), if_neg (fun z => by have := z.1; omega), if_neg (by rw [c_179]; decide), if_neg (fun z => by rcases z with z | z; exact absurd z (by rw [c_182]; decide); have := z.1; omega)]; exact hD
                      exact W.iret (v := nI ((csZ T Z K (gb T (Z 2) (Z 3)) (gb T (Z 2) (lf T (Z 2) (Z 3 + 1))) (lf T (Z 2) (Z 3 + 1))).2.2)) hx hb hr (fun t ht hW => ⟨⟨_, ((cpZ T Z K).1, T, (cpZ T Z K).2.1), rfl, ⟨by rw [cpZ, cpR, if_neg (by omega), if_neg (by rw [c_12]; decide), if_neg (by omega), if_neg (by omega), if_neg (by rw [c_175]; decide), if_neg (fun z => by have := z.1; omega), if_neg (by rw [c_179]; decide), if_neg (fun z => by rcases z with z | z; exact absurd z (by rw [c_182]; decide); have := z.1; omega)], rfl⟩, by rw [ht]; exact hP, va_K.moved hW.alike hK, hD⟩, hS.F ht⟩) hS.2.2 dX0_cutPiece_192
                    · have c_188 := (bI_eqN (by omega)).mp c_188
                      refine lv_iload_n hx hb dX0_cutPiece_166 rfl (lv_at hl 0 rfl) ?_
                      refine vp_callSi (va_Run.run (va_runS (As := [.int (bI (gb T (Z 2) (lf T (Z 2) (Z 3 + 1))))]) (rest := []) ⟨hx, hb, hml, hown, hts⟩ (c_isDigit l (gb T (Z 2) (lf T (Z 2) (Z 3 + 1)))) (cwS 1 hts (gS (fun _ h => h) ml_X0_142 sm_X0_isDigit ini_X0 co_X0_isDigit) rfl rfl rfl pd_X0_isDigit ⟨Nat.le_of_ble_eq_true rfl, Nat.le_of_ble_eq_true rfl⟩) st_pre rfl rfl hl.1 rfl (lv_room (Nat.le_of_ble_eq_true rfl)) dX0_cutPiece_167 ⟨Nat.zero_le _, Nat.zero_le _⟩)) (fun r_192 (e_193 : r_192 = b2i (isD (gb T (Z 2) (lf T (Z 2) (Z 3 + 1))))) => ?_)
                      subst e_193
                      refine lv_if_eq (tgt := 185) hx hb dX0_cutPiece_170 (by decide) (fun c_194 => ?_) (fun c_194 => ?_)
                      · have c_194 := (b2i_z (isD (gb T (Z 2) (lf T (Z 2) (Z 3 + 1))))).mp c_194
                        refine lv_aload_n hx hb dX0_cutPiece_185 rfl (lv_at hl 3 rfl) ?_
                        refine lv_iload_n hx hb dX0_cutPiece_186 rfl (lv_at hl 2 rfl) ?_
                        refine lv_iload_n hx hb dX0_cutPiece_187 rfl (lv_at hl 0 rfl) ?_
                        refine lv_iload_n hx hb dX0_cutPiece_188 rfl (lv_at hl 1 rfl) ?_
                        have hwH := hw
                        refine lm_calli (va_runV (As := [.int (bI (gb T (Z 2) (Z 3))), .int (bI (gb T (Z 2) (lf T (Z 2) (Z 3 + 1)))), .int (nI (lf T (Z 2) (Z 3 + 1)))]) (rest := []) ⟨hx, hb, hml, hown, hts⟩ (c_cutSign l dC dI cA a0 a1 a2 dK dV A0 s.heap.size Z T K (gb T (Z 2) (Z 3)) (gb T (Z 2) (lf T (Z 2) (Z 3 + 1))) (lf T (Z 2) (Z 3 + 1)) (show Z 2 ≤ 32768 by omega) (show Z 4 < 65536 by omega) (show Z 10 < 2 ^ 29 by omega) (show Z 11 ≤ 1 by omega) (show Z 3 ≤ Z 2 by omega) (show lf T (Z 2) (Z 3 + 1) ≤ Z 2 by omega) (show gb T (Z 2) (lf T (Z 2) (Z 3 + 1)) = gb T (Z 2) (lf T (Z 2) (Z 3 + 1)) by omega)) (cwV 3 hts (gV (fun _ h => h) ml_X0_148 im_X0_cutSign se_X0_cutSign ini_X0 co_X0_cutSign) rfl rfl rfl pd_X0_cutSign ⟨Nat.le_of_ble_eq_true rfl, Nat.le_of_ble_eq_true rfl⟩) (lm_preW hK hP hD hwH) rfl rfl hl.1 rfl (lv_room (Nat.le_of_ble_eq_true rfl)) dX0_cutPiece_189 ⟨Nat.zero_le _, Nat.zero_le _⟩) hD hS hA (fun r_197 u_196 H locs q_195 hP hD hS => ?_)
                        obtain ⟨rfl, rfl⟩ := q_195
                        have hP : va_P (dC, dI) vwCl (lmW cA a0 a1 a2 ((csZ T Z K (gb T (Z 2) (Z 3)) (gb T (Z 2) (lf T (Z 2) (Z 3 + 1))) (lf T (Z 2) (Z 3 + 1))).1, T, (csZ T Z K (gb T (Z 2) (Z 3)) (gb T (Z 2) (lf T (Z 2) (Z 3 + 1))) (lf T (Z 2) (Z 3 + 1))).2.1)) H := hP
                        have hD : va_D A (lmW cA a0 a1 a2 ((csZ T Z K (gb T (Z 2) (Z 3)) (gb T (Z 2) (lf T (Z 2) (Z 3 + 1))) (lf T (Z 2) (Z 3 + 1))).1, T, (csZ T Z K (gb T (Z 2) (Z 3)) (gb T (Z 2) (lf T (Z 2) (Z 3 + 1))) (lf T (Z 2) (Z 3 + 1))).2.1)) := hD
                        have hP : va_P (dC, dI) vwCl (lmW cA a0 a1 a2 ((cpZ T Z K).1, T, (cpZ T Z K).2.1)) H := by rw [cpZ, cpR, if_neg (by omega), if_neg (by rw [c_12]; decide), if_neg (by omega), if_neg (by omega), if_neg (by rw [c_175]; decide), if_neg (fun z => by have := z.1; omega), if_neg (by rw [c_179]; decide), if_neg (fun z => by rcases z with z | z; exact absurd z (by rw [c_182]; decide); exact absurd z.2 (by rw [c_194]; decide))]; exact hP
                        have hD : va_D A (lmW cA a0 a1 a2 ((cpZ T Z K).1, T, (cpZ T Z K).2.1)) := by rw [cpZ, cpR, if_neg (by omega), if_neg (by rw [c_12]; decide), if_neg (by omega), if_neg (by omega), if_neg (by rw [c_175]; decide), if_neg (fun z => by have := z.1; omega), if_neg (by rw [c_179]; decide), if_neg (fun z => by rcases z with z | z; exact absurd z (by rw [c_182]; decide); exact absurd z.2 (by rw [c_194]; decide))]; exact hD
                        exact W.iret (v := nI ((csZ T Z K (gb T (Z 2) (Z 3)) (gb T (Z 2) (lf T (Z 2) (Z 3 + 1))) (lf T (Z 2) (Z 3 + 1))).2.2)) hx hb hr (fun t ht hW => ⟨⟨_, ((cpZ T Z K).1, T, (cpZ T Z K).2.1), rfl, ⟨by rw [cpZ, cpR, if_neg (by omega), if_neg (by rw [c_12]; decide), if_neg (by omega), if_neg (by omega), if_neg (by rw [c_175]; decide), if_neg (fun z => by have := z.1; omega), if_neg (by rw [c_179]; decide), if_neg (fun z => by rcases z with z | z; exact absurd z (by rw [c_182]; decide); exact absurd z.2 (by rw [c_194]; decide))], rfl⟩, by rw [ht]; exact hP, va_K.moved hW.alike hK, hD⟩, hS.F ht⟩) hS.2.2 dX0_cutPiece_192
                      · have c_194 := mt (b2i_z (isD (gb T (Z 2) (lf T (Z 2) (Z 3 + 1))))).mpr c_194
                        refine lv_aload_n hx hb dX0_cutPiece_173 rfl (lv_at hl 3 rfl) ?_
                        refine lv_iconst (v := nI 2) hx hb dX0_cutPiece_174 (by decide) ?_
                        refine lv_aload_n hx hb dX0_cutPiece_175 rfl (lv_at hl 3 rfl) ?_
                        refine lv_iload_n hx hb dX0_cutPiece_176 rfl (lv_at hl 1 rfl) ?_
                        refine lv_iload_n hx hb dX0_cutPiece_177 rfl (lv_at hl 2 rfl) ?_
                        refine vp_callSi (va_Run.run (va_runV (As := [.int (nI (lf T (Z 2) (Z 3 + 1))), .int (bI (gb T (Z 2) (Z 3)))]) (rest := [.int (nI 2), .ref a0]) ⟨hx, hb, hml, hown, hts⟩ (c_numberEnd l dC dI cA a0 a1 a2 Z T K (lf T (Z 2) (Z 3 + 1)) (gb T (Z 2) (Z 3)) (show Z 2 ≤ 32768 by omega) (show lf T (Z 2) (Z 3 + 1) < 2 ^ 30 - 1 by omega)) (cwV 2 hts (gV (fun _ h => h) ml_X0_145 im_X0_numberEnd se_X0_numberEnd ini_X0 co_X0_numberEnd) rfl rfl rfl pd_X0_numberEnd ⟨Nat.le_of_ble_eq_true rfl, Nat.le_of_ble_eq_true rfl⟩) (lm_preR hK hP) rfl rfl hl.1 rfl (lv_room (Nat.le_of_ble_eq_true rfl)) dX0_cutPiece_178 ⟨Nat.zero_le _, Nat.zero_le _⟩)) (fun r_198 (e_199 : r_198 = nI (nuE T (Z 2) (lf T (Z 2) (Z 3 + 1)) (gb T (Z 2) (Z 3)))) => ?_)
                        subst e_199
                        have := nuE_b T (Z 2) (lf T (Z 2) (Z 3 + 1)) (gb T (Z 2) (Z 3))
                        refine lm_calli (va_runV (As := [.int (nI 2), .int (nI (nuE T (Z 2) (lf T (Z 2) (Z 3 + 1)) (gb T (Z 2) (Z 3))))]) (rest := []) ⟨hx, hb, hml, hown, hts⟩ (c_addToken l dC dI cA a0 a1 a2 s.heap.size Z T K 2 (nuE T (Z 2) (lf T (Z 2) (Z 3 + 1)) (gb T (Z 2) (Z 3))) (show Z 2 ≤ 32768 by omega) (show nuE T (Z 2) (lf T (Z 2) (Z 3 + 1)) (gb T (Z 2) (Z 3)) ≤ Z 2 by omega) (show Z 3 ≤ Z 2 by omega) (show Z 4 < 65536 by omega) (show Z 10 < 2 ^ 29 by omega) (show Z 11 ≤ 1 by omega) (show 2 < 16 by omega)) (cwV 2 hts (gV (fun _ h => h) ml_X0_139 im_X0_addToken se_X0_addToken ini_X0 co_X0_addToken) rfl rfl rfl pd_X0_addToken ⟨Nat.le_of_ble_eq_true rfl, Nat.le_of_ble_eq_true rfl⟩) (lm_preS hK hP hD) rfl rfl hl.1 rfl (lv_room (Nat.le_of_ble_eq_true rfl)) dX0_cutPiece_181 ⟨Nat.zero_le _, Nat.zero_le _⟩) hD hS hA (fun r_202 u_201 H locs q_200 hP hD hS => ?_)
                        obtain ⟨rfl, rfl⟩ := q_200
                        have hP : va_P (dC, dI) vwCl (lmW cA a0 a1 a2 ((adZ T Z (nuE T (Z 2) (lf T (Z 2) (Z 3 + 1)) (gb T (Z 2) (Z 3)))), T, (adK T Z K 2 (nuE T (Z 2) (lf T (Z 2) (Z 3 + 1)) (gb T (Z 2) (Z 3)))))) H := hP
                        have hD : va_D A (lmW cA a0 a1 a2 ((adZ T Z (nuE T (Z 2) (lf T (Z 2) (Z 3 + 1)) (gb T (Z 2) (Z 3)))), T, (adK T Z K 2 (nuE T (Z 2) (lf T (Z 2) (Z 3 + 1)) (gb T (Z 2) (Z 3)))))) := hD
                        have hP : va_P (dC, dI) vwCl (lmW cA a0 a1 a2 ((cpZ T Z K).1, T, (cpZ T Z K).2.1)) H := by rw [cpZ, cpR, if_neg (by omega), if_neg (by rw [c_12]; decide), if_neg (by omega), if_neg (by omega), if_neg (by rw [c_175]; decide), if_neg (fun z => by have := z.1; omega), if_neg (by rw [c_179]; decide), if_pos (Or.inr ⟨by omega, by simpa using c_194⟩)]; exact hP
                        have hD : va_D A (lmW cA a0 a1 a2 ((cpZ T Z K).1, T, (cpZ T Z K).2.1)) := by rw [cpZ, cpR, if_neg (by omega), if_neg (by rw [c_12]; decide), if_neg (by omega), if_neg (by omega), if_neg (by rw [c_175]; decide), if_neg (fun z => by have := z.1; omega), if_neg (by rw [c_179]; decide), if_pos (Or.inr ⟨by omega, by simpa using c_194⟩)]; exact hD
                        exact W.iret (v := nI 0) hx hb hr (fun t ht hW => ⟨⟨_, ((cpZ T Z K).1, T, (cpZ T Z K).2.1), rfl, ⟨by rw [cpZ, cpR, if_neg (by omega), if_neg (by rw [c_12]; decide), if_neg (by omega), if_neg (by omega), if_neg (by rw [c_175]; decide), if_neg (fun z => by have := z.1; omega), if_neg (by rw [c_179]; decide), if_pos (Or.inr ⟨by omega, by simpa using c_194⟩)], rfl⟩, by rw [ht]; exact hP, va_K.moved hW.alike hK, hD⟩, hS.F ht⟩) hS.2.2 dX0_cutPiece_184
                · have c_179 := mt (b2i_z (isL (gb T (Z 2) (Z 3)))).mpr c_179
                  refine lv_aload_n hx hb dX0_cutPiece_142 rfl (lv_at hl 3 rfl) ?_
                  refine lv_iconst (v := nI 1) hx hb dX0_cutPiece_143 (by decide) ?_
                  refine lv_aload_n hx hb dX0_cutPiece_144 rfl (lv_at hl 3 rfl) ?_
                  refine lv_iload_n hx hb dX0_cutPiece_145 rfl (lv_at hl 1 rfl) ?_
                  refine vp_callSi (va_Run.run (va_runV (As := [.int (nI (lf T (Z 2) (Z 3 + 1)))]) (rest := [.int (nI 1), .ref a0]) ⟨hx, hb, hml, hown, hts⟩ (c_nameEnd l dC dI cA a0 a1 a2 Z T K (lf T (Z 2) (Z 3 + 1)) (show Z 2 ≤ 32768 by omega) (show lf T (Z 2) (Z 3 + 1) < 2 ^ 30 - 1 by omega)) (cwV 1 hts (gV (fun _ h => h) ml_X0_136 im_X0_nameEnd se_X0_nameEnd ini_X0 co_X0_nameEnd) rfl rfl rfl pd_X0_nameEnd ⟨Nat.le_of_ble_eq_true rfl, Nat.le_of_ble_eq_true rfl⟩) (lm_preR hK hP) rfl rfl hl.1 rfl (lv_room (Nat.le_of_ble_eq_true rfl)) dX0_cutPiece_146 ⟨Nat.zero_le _, Nat.zero_le _⟩)) (fun r_203 (e_204 : r_203 = nI (nmE T (Z 2) (lf T (Z 2) (Z 3 + 1)))) => ?_)
                  subst e_204
                  have := nmE_b T (Z 2) (lf T (Z 2) (Z 3 + 1))
                  refine lm_calli (va_runV (As := [.int (nI 1), .int (nI (nmE T (Z 2) (lf T (Z 2) (Z 3 + 1))))]) (rest := []) ⟨hx, hb, hml, hown, hts⟩ (c_addToken l dC dI cA a0 a1 a2 s.heap.size Z T K 1 (nmE T (Z 2) (lf T (Z 2) (Z 3 + 1))) (show Z 2 ≤ 32768 by omega) (show nmE T (Z 2) (lf T (Z 2) (Z 3 + 1)) ≤ Z 2 by omega) (show Z 3 ≤ Z 2 by omega) (show Z 4 < 65536 by omega) (show Z 10 < 2 ^ 29 by omega) (show Z 11 ≤ 1 by omega) (show 1 < 16 by omega)) (cwV 2 hts (gV (fun _ h => h) ml_X0_139 im_X0_addToken se_X0_addToken ini_X0 co_X0_addToken) rfl rfl rfl pd_X0_addToken ⟨Nat.le_of_ble_eq_true rfl, Nat.le_of_ble_eq_true rfl⟩) (lm_preS hK hP hD) rfl rfl hl.1 rfl (lv_room (Nat.le_of_ble_eq_true rfl)) dX0_cutPiece_149 ⟨Nat.zero_le _, Nat.zero_le _⟩) hD hS hA (fun r_207 u_206 H locs q_205 hP hD hS => ?_)
                  obtain ⟨rfl, rfl⟩ := q_205
                  have hP : va_P (dC, dI) vwCl (lmW cA a0 a1 a2 ((adZ T Z (nmE T (Z 2) (lf T (Z 2) (Z 3 + 1)))), T, (adK T Z K 1 (nmE T (Z 2) (lf T (Z 2) (Z 3 + 1)))))) H := hP
                  have hD : va_D A (lmW cA a0 a1 a2 ((adZ T Z (nmE T (Z 2) (lf T (Z 2) (Z 3 + 1)))), T, (adK T Z K 1 (nmE T (Z 2) (lf T (Z 2) (Z 3 + 1)))))) := hD
                  have hP : va_P (dC, dI) vwCl (lmW cA a0 a1 a2 ((cpZ T Z K).1, T, (cpZ T Z K).2.1)) H := by rw [cpZ, cpR, if_neg (by omega), if_neg (by rw [c_12]; decide), if_neg (by omega), if_neg (by omega), if_neg (by rw [c_175]; decide), if_neg (fun z => by have := z.1; omega), if_pos (by simpa using c_179)]; exact hP
                  have hD : va_D A (lmW cA a0 a1 a2 ((cpZ T Z K).1, T, (cpZ T Z K).2.1)) := by rw [cpZ, cpR, if_neg (by omega), if_neg (by rw [c_12]; decide), if_neg (by omega), if_neg (by omega), if_neg (by rw [c_175]; decide), if_neg (fun z => by have := z.1; omega), if_pos (by simpa using c_179)]; exact hD
                  exact W.iret (v := nI 0) hx hb hr (fun t ht hW => ⟨⟨_, ((cpZ T Z K).1, T, (cpZ T Z K).2.1), rfl, ⟨by rw [cpZ, cpR, if_neg (by omega), if_neg (by rw [c_12]; decide), if_neg (by omega), if_neg (by omega), if_neg (by rw [c_175]; decide), if_neg (fun z => by have := z.1; omega), if_pos (by simpa using c_179)], rfl⟩, by rw [ht]; exact hP, va_K.moved hW.alike hK, hD⟩, hS.F ht⟩) hS.2.2 dX0_cutPiece_152
              · have c_176 := (bI_eqN (by omega)).mp c_176
                refine lv_iload_n hx hb dX0_cutPiece_121 rfl (lv_at hl 0 rfl) ?_
                refine vp_callSi (va_Run.run (va_runS (As := [.int (bI (gb T (Z 2) (lf T (Z 2) (Z 3 + 1))))]) (rest := []) ⟨hx, hb, hml, hown, hts⟩ (c_isQuote l (gb T (Z 2) (lf T (Z 2) (Z 3 + 1)))) (cwS 1 hts (gS (fun _ h => h) ml_X0_124 sm_X0_isQuote ini_X0 co_X0_isQuote) rfl rfl rfl pd_X0_isQuote ⟨Nat.le_of_ble_eq_true rfl, Nat.le_of_ble_eq_true rfl⟩) st_pre rfl rfl hl.1 rfl (lv_room (Nat.le_of_ble_eq_true rfl)) dX0_cutPiece_122 ⟨Nat.zero_le _, Nat.zero_le _⟩)) (fun r_208 (e_209 : r_208 = b2i (isQ (gb T (Z 2) (lf T (Z 2) (Z 3 + 1))))) => ?_)
                subst e_209
                refine lv_if_eq (tgt := 135) hx hb dX0_cutPiece_125 (by decide) (fun c_210 => ?_) (fun c_210 => ?_)
                · have c_210 := (b2i_z (isQ (gb T (Z 2) (lf T (Z 2) (Z 3 + 1))))).mp c_210
                  refine lv_iload_n hx hb dX0_cutPiece_135 rfl (lv_at hl 2 rfl) ?_
                  refine vp_callSi (va_Run.run (va_runS (As := [.int (bI (gb T (Z 2) (Z 3)))]) (rest := []) ⟨hx, hb, hml, hown, hts⟩ (c_isLetter l (gb T (Z 2) (Z 3))) (cwS 1 hts (gS (fun _ h => h) ml_X0_133 sm_X0_isLetter ini_X0 co_X0_isLetter) rfl rfl rfl pd_X0_isLetter ⟨Nat.le_of_ble_eq_true rfl, Nat.le_of_ble_eq_true rfl⟩) st_pre rfl rfl hl.1 rfl (lv_room (Nat.le_of_ble_eq_true rfl)) dX0_cutPiece_136 ⟨Nat.zero_le _, Nat.zero_le _⟩)) (fun r_211 (e_212 : r_211 = b2i (isL (gb T (Z 2) (Z 3)))) => ?_)
                  subst e_212
                  refine lv_if_eq (tgt := 153) hx hb dX0_cutPiece_139 (by decide) (fun c_213 => ?_) (fun c_213 => ?_)
                  · have c_213 := (b2i_z (isL (gb T (Z 2) (Z 3)))).mp c_213
                    refine lv_iload_n hx hb dX0_cutPiece_153 rfl (lv_at hl 2 rfl) ?_
                    refine vp_callSi (va_Run.run (va_runS (As := [.int (bI (gb T (Z 2) (Z 3)))]) (rest := []) ⟨hx, hb, hml, hown, hts⟩ (c_isDigit l (gb T (Z 2) (Z 3))) (cwS 1 hts (gS (fun _ h => h) ml_X0_142 sm_X0_isDigit ini_X0 co_X0_isDigit) rfl rfl rfl pd_X0_isDigit ⟨Nat.le_of_ble_eq_true rfl, Nat.le_of_ble_eq_true rfl⟩) st_pre rfl rfl hl.1 rfl (lv_room (Nat.le_of_ble_eq_true rfl)) dX0_cutPiece_154 ⟨Nat.zero_le _, Nat.zero_le _⟩)) (fun r_214 (e_215 : r_214 = b2i (isD (gb T (Z 2) (Z 3)))) => ?_)
                    subst e_215
                    refine lv_if_ne (tgt := 173) hx hb dX0_cutPiece_157 (by decide) (fun c_216 => ?_) (fun c_216 => ?_)
                    · have c_216 := mt (b2i_z (isD (gb T (Z 2) (Z 3)))).mpr c_216
                      refine lv_aload_n hx hb dX0_cutPiece_173 rfl (lv_at hl 3 rfl) ?_
                      refine lv_iconst (v := nI 2) hx hb dX0_cutPiece_174 (by decide) ?_
                      refine lv_aload_n hx hb dX0_cutPiece_175 rfl (lv_at hl 3 rfl) ?_
                      refine lv_iload_n hx hb dX0_cutPiece_176 rfl (lv_at hl 1 rfl) ?_
                      refine lv_iload_n hx hb dX0_cutPiece_177 rfl (lv_at hl 2 rfl) ?_
                      refine vp_callSi (va_Run.run (va_runV (As := [.int (nI (lf T (Z 2) (Z 3 + 1))), .int (bI (gb T (Z 2) (Z 3)))]) (rest := [.int (nI 2), .ref a0]) ⟨hx, hb, hml, hown, hts⟩ (c_numberEnd l dC dI cA a0 a1 a2 Z T K (lf T (Z 2) (Z 3 + 1)) (gb T (Z 2) (Z 3)) (show Z 2 ≤ 32768 by omega) (show lf T (Z 2) (Z 3 + 1) < 2 ^ 30 - 1 by omega)) (cwV 2 hts (gV (fun _ h => h) ml_X0_145 im_X0_numberEnd se_X0_numberEnd ini_X0 co_X0_numberEnd) rfl rfl rfl pd_X0_numberEnd ⟨Nat.le_of_ble_eq_true rfl, Nat.le_of_ble_eq_true rfl⟩) (lm_preR hK hP) rfl rfl hl.1 rfl (lv_room (Nat.le_of_ble_eq_true rfl)) dX0_cutPiece_178 ⟨Nat.zero_le _, Nat.zero_le _⟩)) (fun r_217 (e_218 : r_217 = nI (nuE T (Z 2) (lf T (Z 2) (Z 3 + 1)) (gb T (Z 2) (Z 3)))) => ?_)
                      subst e_218
                      have := nuE_b T (Z 2) (lf T (Z 2) (Z 3 + 1)) (gb T (Z 2) (Z 3))
                      refine lm_calli (va_runV (As := [.int (nI 2), .int (nI (nuE T (Z 2) (lf T (Z 2) (Z 3 + 1)) (gb T (Z 2) (Z 3))))]) (rest := []) ⟨hx, hb, hml, hown, hts⟩ (c_addToken l dC dI cA a0 a1 a2 s.heap.size Z T K 2 (nuE T (Z 2) (lf T (Z 2) (Z 3 + 1)) (gb T (Z 2) (Z 3))) (show Z 2 ≤ 32768 by omega) (show nuE T (Z 2) (lf T (Z 2) (Z 3 + 1)) (gb T (Z 2) (Z 3)) ≤ Z 2 by omega) (show Z 3 ≤ Z 2 by omega) (show Z 4 < 65536 by omega) (show Z 10 < 2 ^ 29 by omega) (show Z 11 ≤ 1 by omega) (show 2 < 16 by omega)) (cwV 2 hts (gV (fun _ h => h) ml_X0_139 im_X0_addToken se_X0_addToken ini_X0 co_X0_addToken) rfl rfl rfl pd_X0_addToken ⟨Nat.le_of_ble_eq_true rfl, Nat.le_of_ble_eq_true rfl⟩) (lm_preS hK hP hD) rfl rfl hl.1 rfl (lv_room (Nat.le_of_ble_eq_true rfl)) dX0_cutPiece_181 ⟨Nat.zero_le _, Nat.zero_le _⟩) hD hS hA (fun r_221 u_220 H locs q_219 hP hD hS => ?_)
                      obtain ⟨rfl, rfl⟩ := q_219
                      have hP : va_P (dC, dI) vwCl (lmW cA a0 a1 a2 ((adZ T Z (nuE T (Z 2) (lf T (Z 2) (Z 3 + 1)) (gb T (Z 2) (Z 3)))), T, (adK T Z K 2 (nuE T (Z 2) (lf T (Z 2) (Z 3 + 1)) (gb T (Z 2) (Z 3)))))) H := hP
                      have hD : va_D A (lmW cA a0 a1 a2 ((adZ T Z (nuE T (Z 2) (lf T (Z 2) (Z 3 + 1)) (gb T (Z 2) (Z 3)))), T, (adK T Z K 2 (nuE T (Z 2) (lf T (Z 2) (Z 3 + 1)) (gb T (Z 2) (Z 3)))))) := hD
                      have hP : va_P (dC, dI) vwCl (lmW cA a0 a1 a2 ((cpZ T Z K).1, T, (cpZ T Z K).2.1)) H := by rw [cpZ, cpR, if_neg (by omega), if_neg (by rw [c_12]; decide), if_neg (by omega), if_neg (by omega), if_neg (by rw [c_175]; decide), if_neg (fun z => absurd z.2 (by rw [c_210]; decide)), if_neg (by rw [c_213]; decide), if_pos (Or.inl (by simpa using c_216))]; exact hP
                      have hD : va_D A (lmW cA a0 a1 a2 ((cpZ T Z K).1, T, (cpZ T Z K).2.1)) := by rw [cpZ, cpR, if_neg (by omega), if_neg (by rw [c_12]; decide), if_neg (by omega), if_neg (by omega), if_neg (by rw [c_175]; decide), if_neg (fun z => absurd z.2 (by rw [c_210]; decide)), if_neg (by rw [c_213]; decide), if_pos (Or.inl (by simpa using c_216))]; exact hD
                      exact W.iret (v := nI 0) hx hb hr (fun t ht hW => ⟨⟨_, ((cpZ T Z K).1, T, (cpZ T Z K).2.1), rfl, ⟨by rw [cpZ, cpR, if_neg (by omega), if_neg (by rw [c_12]; decide), if_neg (by omega), if_neg (by omega), if_neg (by rw [c_175]; decide), if_neg (fun z => absurd z.2 (by rw [c_210]; decide)), if_neg (by rw [c_213]; decide), if_pos (Or.inl (by simpa using c_216))], rfl⟩, by rw [ht]; exact hP, va_K.moved hW.alike hK, hD⟩, hS.F ht⟩) hS.2.2 dX0_cutPiece_184
                    · have c_216 := (b2i_z (isD (gb T (Z 2) (Z 3)))).mp c_216
                      refine lv_iload_n hx hb dX0_cutPiece_160 rfl (lv_at hl 2 rfl) ?_
                      refine lv_bipush (v := nI 46) hx hb dX0_cutPiece_161 (by decide) ?_
                      refine lv_icmp_ne (tgt := 185) hx hb dX0_cutPiece_163 (by decide) (fun c_222 => ?_) (fun c_222 => ?_)
                      · have c_222 := mt (bI_eqN (by omega)).mpr c_222
                        refine lv_aload_n hx hb dX0_cutPiece_185 rfl (lv_at hl 3 rfl) ?_
                        refine lv_iload_n hx hb dX0_cutPiece_186 rfl (lv_at hl 2 rfl) ?_
                        refine lv_iload_n hx hb dX0_cutPiece_187 rfl (lv_at hl 0 rfl) ?_
                        refine lv_iload_n hx hb dX0_cutPiece_188 rfl (lv_at hl 1 rfl) ?_
                        have hwH := hw
                        refine lm_calli (va_runV (As := [.int (bI (gb T (Z 2) (Z 3))), .int (bI (gb T (Z 2) (lf T (Z 2) (Z 3 + 1)))), .int (nI (lf T (Z 2) (Z 3 + 1)))]) (rest := []) ⟨hx, hb, hml, hown, hts⟩ (c_cutSign l dC dI cA a0 a1 a2 dK dV A0 s.heap.size Z T K (gb T (Z 2) (Z 3)) (gb T (Z 2) (lf T (Z 2) (Z 3 + 1))) (lf T (Z 2) (Z 3 + 1)) (show Z 2 ≤ 32768 by omega) (show Z 4 < 65536 by omega) (show Z 10 < 2 ^ 29 by omega) (show Z 11 ≤ 1 by omega) (show Z 3 ≤ Z 2 by omega) (show lf T (Z 2) (Z 3 + 1) ≤ Z 2 by omega) (show gb T (Z 2) (lf T (Z 2) (Z 3 + 1)) = gb T (Z 2) (lf T (Z 2) (Z 3 + 1)) by omega)) (cwV 3 hts (gV (fun _ h => h) ml_X0_148 im_X0_cutSign se_X0_cutSign ini_X0 co_X0_cutSign) rfl rfl rfl pd_X0_cutSign ⟨Nat.le_of_ble_eq_true rfl, Nat.le_of_ble_eq_true rfl⟩) (lm_preW hK hP hD hwH) rfl rfl hl.1 rfl (lv_room (Nat.le_of_ble_eq_true rfl)) dX0_cutPiece_189 ⟨Nat.zero_le _, Nat.zero_le _⟩) hD hS hA (fun r_225 u_224 H locs q_223 hP hD hS => ?_)
                        obtain ⟨rfl, rfl⟩ := q_223
                        have hP : va_P (dC, dI) vwCl (lmW cA a0 a1 a2 ((csZ T Z K (gb T (Z 2) (Z 3)) (gb T (Z 2) (lf T (Z 2) (Z 3 + 1))) (lf T (Z 2) (Z 3 + 1))).1, T, (csZ T Z K (gb T (Z 2) (Z 3)) (gb T (Z 2) (lf T (Z 2) (Z 3 + 1))) (lf T (Z 2) (Z 3 + 1))).2.1)) H := hP
                        have hD : va_D A (lmW cA a0 a1 a2 ((csZ T Z K (gb T (Z 2) (Z 3)) (gb T (Z 2) (lf T (Z 2) (Z 3 + 1))) (lf T (Z 2) (Z 3 + 1))).1, T, (csZ T Z K (gb T (Z 2) (Z 3)) (gb T (Z 2) (lf T (Z 2) (Z 3 + 1))) (lf T (Z 2) (Z 3 + 1))).2.1)) := hD
                        have hP : va_P (dC, dI) vwCl (lmW cA a0 a1 a2 ((cpZ T Z K).1, T, (cpZ T Z K).2.1)) H := by rw [cpZ, cpR, if_neg (by omega), if_neg (by rw [c_12]; decide), if_neg (by omega), if_neg (by omega), if_neg (by rw [c_175]; decide), if_neg (fun z => absurd z.2 (by rw [c_210]; decide)), if_neg (by rw [c_213]; decide), if_neg (fun z => by rcases z with z | z; exact absurd z (by rw [c_216]; decide); have := z.1; omega)]; exact hP
                        have hD : va_D A (lmW cA a0 a1 a2 ((cpZ T Z K).1, T, (cpZ T Z K).2.1)) := by rw [cpZ, cpR, if_neg (by omega), if_neg (by rw [c_12]; decide), if_neg (by omega), if_neg (by omega), if_neg (by rw [c_175]; decide), if_neg (fun z => absurd z.2 (by rw [c_210]; decide)), if_neg (by rw [c_213]; decide), if_neg (fun z => by rcases z with z | z; exact absurd z (by rw [c_216]; decide); have := z.1; omega)]; exact hD
                        exact W.iret (v := nI ((csZ T Z K (gb T (Z 2) (Z 3)) (gb T (Z 2) (lf T (Z 2) (Z 3 + 1))) (lf T (Z 2) (Z 3 + 1))).2.2)) hx hb hr (fun t ht hW => ⟨⟨_, ((cpZ T Z K).1, T, (cpZ T Z K).2.1), rfl, ⟨by rw [cpZ, cpR, if_neg (by omega), if_neg (by rw [c_12]; decide), if_neg (by omega), if_neg (by omega), if_neg (by rw [c_175]; decide), if_neg (fun z => absurd z.2 (by rw [c_210]; decide)), if_neg (by rw [c_213]; decide), if_neg (fun z => by rcases z with z | z; exact absurd z (by rw [c_216]; decide); have := z.1; omega)], rfl⟩, by rw [ht]; exact hP, va_K.moved hW.alike hK, hD⟩, hS.F ht⟩) hS.2.2 dX0_cutPiece_192
                      · have c_222 := (bI_eqN (by omega)).mp c_222
                        refine lv_iload_n hx hb dX0_cutPiece_166 rfl (lv_at hl 0 rfl) ?_
                        refine vp_callSi (va_Run.run (va_runS (As := [.int (bI (gb T (Z 2) (lf T (Z 2) (Z 3 + 1))))]) (rest := []) ⟨hx, hb, hml, hown, hts⟩ (c_isDigit l (gb T (Z 2) (lf T (Z 2) (Z 3 + 1)))) (cwS 1 hts (gS (fun _ h => h) ml_X0_142 sm_X0_isDigit ini_X0 co_X0_isDigit) rfl rfl rfl pd_X0_isDigit ⟨Nat.le_of_ble_eq_true rfl, Nat.le_of_ble_eq_true rfl⟩) st_pre rfl rfl hl.1 rfl (lv_room (Nat.le_of_ble_eq_true rfl)) dX0_cutPiece_167 ⟨Nat.zero_le _, Nat.zero_le _⟩)) (fun r_226 (e_227 : r_226 = b2i (isD (gb T (Z 2) (lf T (Z 2) (Z 3 + 1))))) => ?_)
                        subst e_227
                        refine lv_if_eq (tgt := 185) hx hb dX0_cutPiece_170 (by decide) (fun c_228 => ?_) (fun c_228 => ?_)
                        · have c_228 := (b2i_z (isD (gb T (Z 2) (lf T (Z 2) (Z 3 + 1))))).mp c_228
                          refine lv_aload_n hx hb dX0_cutPiece_185 rfl (lv_at hl 3 rfl) ?_
                          refine lv_iload_n hx hb dX0_cutPiece_186 rfl (lv_at hl 2 rfl) ?_
                          refine lv_iload_n hx hb dX0_cutPiece_187 rfl (lv_at hl 0 rfl) ?_
                          refine lv_iload_n hx hb dX0_cutPiece_188 rfl (lv_at hl 1 rfl) ?_
                          have hwH := hw
                          refine lm_calli (va_runV (As := [.int (bI (gb T (Z 2) (Z 3))), .int (bI (gb T (Z 2) (lf T (Z 2) (Z 3 + 1)))), .int (nI (lf T (Z 2) (Z 3 + 1)))]) (rest := []) ⟨hx, hb, hml, hown, hts⟩ (c_cutSign l dC dI cA a0 a1 a2 dK dV A0 s.heap.size Z T K (gb T (Z 2) (Z 3)) (gb T (Z 2) (lf T (Z 2) (Z 3 + 1))) (lf T (Z 2) (Z 3 + 1)) (show Z 2 ≤ 32768 by omega) (show Z 4 < 65536 by omega) (show Z 10 < 2 ^ 29 by omega) (show Z 11 ≤ 1 by omega) (show Z 3 ≤ Z 2 by omega) (show lf T (Z 2) (Z 3 + 1) ≤ Z 2 by omega) (show gb T (Z 2) (lf T (Z 2) (Z 3 + 1)) = gb T (Z 2) (lf T (Z 2) (Z 3 + 1)) by omega)) (cwV 3 hts (gV (fun _ h => h) ml_X0_148 im_X0_cutSign se_X0_cutSign ini_X0 co_X0_cutSign) rfl rfl rfl pd_X0_cutSign ⟨Nat.le_of_ble_eq_true rfl, Nat.le_of_ble_eq_true rfl⟩) (lm_preW hK hP hD hwH) rfl rfl hl.1 rfl (lv_room (Nat.le_of_ble_eq_true rfl)) dX0_cutPiece_189 ⟨Nat.zero_le _, Nat.zero_le _⟩) hD hS hA (fun r_231 u_230 H locs q_229 hP hD hS => ?_)
                          obtain ⟨rfl, rfl⟩ := q_229
                          have hP : va_P (dC, dI) vwCl (lmW cA a0 a1 a2 ((csZ T Z K (gb T (Z 2) (Z 3)) (gb T (Z 2) (lf T (Z 2) (Z 3 + 1))) (lf T (Z 2) (Z 3 + 1))).1, T, (csZ T Z K (gb T (Z 2) (Z 3)) (gb T (Z 2) (lf T (Z 2) (Z 3 + 1))) (lf T (Z 2) (Z 3 + 1))).2.1)) H := hP
                          have hD : va_D A (lmW cA a0 a1 a2 ((csZ T Z K (gb T (Z 2) (Z 3)) (gb T (Z 2) (lf T (Z 2) (Z 3 + 1))) (lf T (Z 2) (Z 3 + 1))).1, T, (csZ T Z K (gb T (Z 2) (Z 3)) (gb T (Z 2) (lf T (Z 2) (Z 3 + 1))) (lf T (Z 2) (Z 3 + 1))).2.1)) := hD
                          have hP : va_P (dC, dI) vwCl (lmW cA a0 a1 a2 ((cpZ T Z K).1, T, (cpZ T Z K).2.1)) H := by rw [cpZ, cpR, if_neg (by omega), if_neg (by rw [c_12]; decide), if_neg (by omega), if_neg (by omega), if_neg (by rw [c_175]; decide), if_neg (fun z => absurd z.2 (by rw [c_210]; decide)), if_neg (by rw [c_213]; decide), if_neg (fun z => by rcases z with z | z; exact absurd z (by rw [c_216]; decide); exact absurd z.2 (by rw [c_228]; decide))]; exact hP
                          have hD : va_D A (lmW cA a0 a1 a2 ((cpZ T Z K).1, T, (cpZ T Z K).2.1)) := by rw [cpZ, cpR, if_neg (by omega), if_neg (by rw [c_12]; decide), if_neg (by omega), if_neg (by omega), if_neg (by rw [c_175]; decide), if_neg (fun z => absurd z.2 (by rw [c_210]; decide)), if_neg (by rw [c_213]; decide), if_neg (fun z => by rcases z with z | z; exact absurd z (by rw [c_216]; decide); exact absurd z.2 (by rw [c_228]; decide))]; exact hD
                          exact W.iret (v := nI ((csZ T Z K (gb T (Z 2) (Z 3)) (gb T (Z 2) (lf T (Z 2) (Z 3 + 1))) (lf T (Z 2) (Z 3 + 1))).2.2)) hx hb hr (fun t ht hW => ⟨⟨_, ((cpZ T Z K).1, T, (cpZ T Z K).2.1), rfl, ⟨by rw [cpZ, cpR, if_neg (by omega), if_neg (by rw [c_12]; decide), if_neg (by omega), if_neg (by omega), if_neg (by rw [c_175]; decide), if_neg (fun z => absurd z.2 (by rw [c_210]; decide)), if_neg (by rw [c_213]; decide), if_neg (fun z => by rcases z with z | z; exact absurd z (by rw [c_216]; decide); exact absurd z.2 (by rw [c_228]; decide))], rfl⟩, by rw [ht]; exact hP, va_K.moved hW.alike hK, hD⟩, hS.F ht⟩) hS.2.2 dX0_cutPiece_192
                        · have c_228 := mt (b2i_z (isD (gb T (Z 2) (lf T (Z 2) (Z 3 + 1))))).mpr c_228
                          refine lv_aload_n hx hb dX0_cutPiece_173 rfl (lv_at hl 3 rfl) ?_
                          refine lv_iconst (v := nI 2) hx hb dX0_cutPiece_174 (by decide) ?_
                          refine lv_aload_n hx hb dX0_cutPiece_175 rfl (lv_at hl 3 rfl) ?_
                          refine lv_iload_n hx hb dX0_cutPiece_176 rfl (lv_at hl 1 rfl) ?_
                          refine lv_iload_n hx hb dX0_cutPiece_177 rfl (lv_at hl 2 rfl) ?_
                          refine vp_callSi (va_Run.run (va_runV (As := [.int (nI (lf T (Z 2) (Z 3 + 1))), .int (bI (gb T (Z 2) (Z 3)))]) (rest := [.int (nI 2), .ref a0]) ⟨hx, hb, hml, hown, hts⟩ (c_numberEnd l dC dI cA a0 a1 a2 Z T K (lf T (Z 2) (Z 3 + 1)) (gb T (Z 2) (Z 3)) (show Z 2 ≤ 32768 by omega) (show lf T (Z 2) (Z 3 + 1) < 2 ^ 30 - 1 by omega)) (cwV 2 hts (gV (fun _ h => h) ml_X0_145 im_X0_numberEnd se_X0_numberEnd ini_X0 co_X0_numberEnd) rfl rfl rfl pd_X0_numberEnd ⟨Nat.le_of_ble_eq_true rfl, Nat.le_of_ble_eq_true rfl⟩) (lm_preR hK hP) rfl rfl hl.1 rfl (lv_room (Nat.le_of_ble_eq_true rfl)) dX0_cutPiece_178 ⟨Nat.zero_le _, Nat.zero_le _⟩)) (fun r_232 (e_233 : r_232 = nI (nuE T (Z 2) (lf T (Z 2) (Z 3 + 1)) (gb T (Z 2) (Z 3)))) => ?_)
                          subst e_233
                          have := nuE_b T (Z 2) (lf T (Z 2) (Z 3 + 1)) (gb T (Z 2) (Z 3))
                          refine lm_calli (va_runV (As := [.int (nI 2), .int (nI (nuE T (Z 2) (lf T (Z 2) (Z 3 + 1)) (gb T (Z 2) (Z 3))))]) (rest := []) ⟨hx, hb, hml, hown, hts⟩ (c_addToken l dC dI cA a0 a1 a2 s.heap.size Z T K 2 (nuE T (Z 2) (lf T (Z 2) (Z 3 + 1)) (gb T (Z 2) (Z 3))) (show Z 2 ≤ 32768 by omega) (show nuE T (Z 2) (lf T (Z 2) (Z 3 + 1)) (gb T (Z 2) (Z 3)) ≤ Z 2 by omega) (show Z 3 ≤ Z 2 by omega) (show Z 4 < 65536 by omega) (show Z 10 < 2 ^ 29 by omega) (show Z 11 ≤ 1 by omega) (show 2 < 16 by omega)) (cwV 2 hts (gV (fun _ h => h) ml_X0_139 im_X0_addToken se_X0_addToken ini_X0 co_X0_addToken) rfl rfl rfl pd_X0_addToken ⟨Nat.le_of_ble_eq_true rfl, Nat.le_of_ble_eq_true rfl⟩) (lm_preS hK hP hD) rfl rfl hl.1 rfl (lv_room (Nat.le_of_ble_eq_true rfl)) dX0_cutPiece_181 ⟨Nat.zero_le _, Nat.zero_le _⟩) hD hS hA (fun r_236 u_235 H locs q_234 hP hD hS => ?_)
                          obtain ⟨rfl, rfl⟩ := q_234
                          have hP : va_P (dC, dI) vwCl (lmW cA a0 a1 a2 ((adZ T Z (nuE T (Z 2) (lf T (Z 2) (Z 3 + 1)) (gb T (Z 2) (Z 3)))), T, (adK T Z K 2 (nuE T (Z 2) (lf T (Z 2) (Z 3 + 1)) (gb T (Z 2) (Z 3)))))) H := hP
                          have hD : va_D A (lmW cA a0 a1 a2 ((adZ T Z (nuE T (Z 2) (lf T (Z 2) (Z 3 + 1)) (gb T (Z 2) (Z 3)))), T, (adK T Z K 2 (nuE T (Z 2) (lf T (Z 2) (Z 3 + 1)) (gb T (Z 2) (Z 3)))))) := hD
                          have hP : va_P (dC, dI) vwCl (lmW cA a0 a1 a2 ((cpZ T Z K).1, T, (cpZ T Z K).2.1)) H := by rw [cpZ, cpR, if_neg (by omega), if_neg (by rw [c_12]; decide), if_neg (by omega), if_neg (by omega), if_neg (by rw [c_175]; decide), if_neg (fun z => absurd z.2 (by rw [c_210]; decide)), if_neg (by rw [c_213]; decide), if_pos (Or.inr ⟨by omega, by simpa using c_228⟩)]; exact hP
                          have hD : va_D A (lmW cA a0 a1 a2 ((cpZ T Z K).1, T, (cpZ T Z K).2.1)) := by rw [cpZ, cpR, if_neg (by omega), if_neg (by rw [c_12]; decide), if_neg (by omega), if_neg (by omega), if_neg (by rw [c_175]; decide), if_neg (fun z => absurd z.2 (by rw [c_210]; decide)), if_neg (by rw [c_213]; decide), if_pos (Or.inr ⟨by omega, by simpa using c_228⟩)]; exact hD
                          exact W.iret (v := nI 0) hx hb hr (fun t ht hW => ⟨⟨_, ((cpZ T Z K).1, T, (cpZ T Z K).2.1), rfl, ⟨by rw [cpZ, cpR, if_neg (by omega), if_neg (by rw [c_12]; decide), if_neg (by omega), if_neg (by omega), if_neg (by rw [c_175]; decide), if_neg (fun z => absurd z.2 (by rw [c_210]; decide)), if_neg (by rw [c_213]; decide), if_pos (Or.inr ⟨by omega, by simpa using c_228⟩)], rfl⟩, by rw [ht]; exact hP, va_K.moved hW.alike hK, hD⟩, hS.F ht⟩) hS.2.2 dX0_cutPiece_184
                  · have c_213 := mt (b2i_z (isL (gb T (Z 2) (Z 3)))).mpr c_213
                    refine lv_aload_n hx hb dX0_cutPiece_142 rfl (lv_at hl 3 rfl) ?_
                    refine lv_iconst (v := nI 1) hx hb dX0_cutPiece_143 (by decide) ?_
                    refine lv_aload_n hx hb dX0_cutPiece_144 rfl (lv_at hl 3 rfl) ?_
                    refine lv_iload_n hx hb dX0_cutPiece_145 rfl (lv_at hl 1 rfl) ?_
                    refine vp_callSi (va_Run.run (va_runV (As := [.int (nI (lf T (Z 2) (Z 3 + 1)))]) (rest := [.int (nI 1), .ref a0]) ⟨hx, hb, hml, hown, hts⟩ (c_nameEnd l dC dI cA a0 a1 a2 Z T K (lf T (Z 2) (Z 3 + 1)) (show Z 2 ≤ 32768 by omega) (show lf T (Z 2) (Z 3 + 1) < 2 ^ 30 - 1 by omega)) (cwV 1 hts (gV (fun _ h => h) ml_X0_136 im_X0_nameEnd se_X0_nameEnd ini_X0 co_X0_nameEnd) rfl rfl rfl pd_X0_nameEnd ⟨Nat.le_of_ble_eq_true rfl, Nat.le_of_ble_eq_true rfl⟩) (lm_preR hK hP) rfl rfl hl.1 rfl (lv_room (Nat.le_of_ble_eq_true rfl)) dX0_cutPiece_146 ⟨Nat.zero_le _, Nat.zero_le _⟩)) (fun r_237 (e_238 : r_237 = nI (nmE T (Z 2) (lf T (Z 2) (Z 3 + 1)))) => ?_)
                    subst e_238
                    have := nmE_b T (Z 2) (lf T (Z 2) (Z 3 + 1))
                    refine lm_calli (va_runV (As := [.int (nI 1), .int (nI (nmE T (Z 2) (lf T (Z 2) (Z 3 + 1))))]) (rest := []) ⟨hx, hb, hml, hown, hts⟩ (c_addToken l dC dI cA a0 a1 a2 s.heap.size Z T K 1 (nmE T (Z 2) (lf T (Z 2) (Z 3 + 1))) (show Z 2 ≤ 32768 by omega) (show nmE T (Z 2) (lf T (Z 2) (Z 3 + 1)) ≤ Z 2 by omega) (show Z 3 ≤ Z 2 by omega) (show Z 4 < 65536 by omega) (show Z 10 < 2 ^ 29 by omega) (show Z 11 ≤ 1 by omega) (show 1 < 16 by omega)) (cwV 2 hts (gV (fun _ h => h) ml_X0_139 im_X0_addToken se_X0_addToken ini_X0 co_X0_addToken) rfl rfl rfl pd_X0_addToken ⟨Nat.le_of_ble_eq_true rfl, Nat.le_of_ble_eq_true rfl⟩) (lm_preS hK hP hD) rfl rfl hl.1 rfl (lv_room (Nat.le_of_ble_eq_true rfl)) dX0_cutPiece_149 ⟨Nat.zero_le _, Nat.zero_le _⟩) hD hS hA (fun r_241 u_240 H locs q_239 hP hD hS => ?_)
                    obtain ⟨rfl, rfl⟩ := q_239
                    have hP : va_P (dC, dI) vwCl (lmW cA a0 a1 a2 ((adZ T Z (nmE T (Z 2) (lf T (Z 2) (Z 3 + 1)))), T, (adK T Z K 1 (nmE T (Z 2) (lf T (Z 2) (Z 3 + 1)))))) H := hP
                    have hD : va_D A (lmW cA a0 a1 a2 ((adZ T Z (nmE T (Z 2) (lf T (Z 2) (Z 3 + 1)))), T, (adK T Z K 1 (nmE T (Z 2) (lf T (Z 2) (Z 3 + 1)))))) := hD
                    have hP : va_P (dC, dI) vwCl (lmW cA a0 a1 a2 ((cpZ T Z K).1, T, (cpZ T Z K).2.1)) H := by rw [cpZ, cpR, if_neg (by omega), if_neg (by rw [c_12]; decide), if_neg (by omega), if_neg (by omega), if_neg (by rw [c_175]; decide), if_neg (fun z => absurd z.2 (by rw [c_210]; decide)), if_pos (by simpa using c_213)]; exact hP
                    have hD : va_D A (lmW cA a0 a1 a2 ((cpZ T Z K).1, T, (cpZ T Z K).2.1)) := by rw [cpZ, cpR, if_neg (by omega), if_neg (by rw [c_12]; decide), if_neg (by omega), if_neg (by omega), if_neg (by rw [c_175]; decide), if_neg (fun z => absurd z.2 (by rw [c_210]; decide)), if_pos (by simpa using c_213)]; exact hD
                    exact W.iret (v := nI 0) hx hb hr (fun t ht hW => ⟨⟨_, ((cpZ T Z K).1, T, (cpZ T Z K).2.1), rfl, ⟨by rw [cpZ, cpR, if_neg (by omega), if_neg (by rw [c_12]; decide), if_neg (by omega), if_neg (by omega), if_neg (by rw [c_175]; decide), if_neg (fun z => absurd z.2 (by rw [c_210]; decide)), if_pos (by simpa using c_213)], rfl⟩, by rw [ht]; exact hP, va_K.moved hW.alike hK, hD⟩, hS.F ht⟩) hS.2.2 dX0_cutPiece_152
                · have c_210 := mt (b2i_z (isQ (gb T (Z 2) (lf T (Z 2) (Z 3 + 1))))).mpr c_210
                  have := isQ_lt (show isQ (gb T (Z 2) (lf T (Z 2) (Z 3 + 1))) = true by simpa using c_210)
                  refine lv_aload_n hx hb dX0_cutPiece_128 rfl (lv_at hl 3 rfl) ?_
                  refine lv_iload_n hx hb dX0_cutPiece_129 rfl (lv_at hl 1 rfl) ?_
                  refine lv_iload_n hx hb dX0_cutPiece_130 rfl (lv_at hl 0 rfl) ?_
                  refine lm_calli (va_runV (As := [.int (nI (lf T (Z 2) (Z 3 + 1))), .int (bI (gb T (Z 2) (lf T (Z 2) (Z 3 + 1))))]) (rest := []) ⟨hx, hb, hml, hown, hts⟩ (c_cutWide l dC dI cA a0 a1 a2 s.heap.size Z T K (lf T (Z 2) (Z 3 + 1)) (gb T (Z 2) (lf T (Z 2) (Z 3 + 1))) (show Z 2 ≤ 32768 by omega) (show gb T (Z 2) (lf T (Z 2) (Z 3 + 1)) < 256 by omega) (show Z 4 < 65536 by omega) (show Z 6 < 2 ^ 29 by omega) (show Z 10 < 2 ^ 29 by omega) (show Z 11 ≤ 1 by omega) (show Z 14 < 2 ^ 29 by omega) (show Z 15 < 2 ^ 29 by omega) (show Z 3 ≤ Z 2 by omega) (show lf T (Z 2) (Z 3 + 1) < Z 2 by omega)) (cwV 2 hts (gV (fun _ h => h) ml_X0_130 im_X0_cutWide se_X0_cutWide ini_X0 co_X0_cutWide) rfl rfl rfl pd_X0_cutWide ⟨Nat.le_of_ble_eq_true rfl, Nat.le_of_ble_eq_true rfl⟩) (lm_preS hK hP hD) rfl rfl hl.1 rfl (lv_room (Nat.le_of_ble_eq_true rfl)) dX0_cutPiece_131 ⟨Nat.zero_le _, Nat.zero_le _⟩) hD hS hA (fun r_244 u_243 H locs q_242 hP hD hS => ?_)
                  obtain ⟨rfl, rfl⟩ := q_242
                  have hP : va_P (dC, dI) vwCl (lmW cA a0 a1 a2 ((cwZ T Z K (lf T (Z 2) (Z 3 + 1)) (gb T (Z 2) (lf T (Z 2) (Z 3 + 1)))).1, T, (cwZ T Z K (lf T (Z 2) (Z 3 + 1)) (gb T (Z 2) (lf T (Z 2) (Z 3 + 1)))).2.1)) H := hP
                  have hD : va_D A (lmW cA a0 a1 a2 ((cwZ T Z K (lf T (Z 2) (Z 3 + 1)) (gb T (Z 2) (lf T (Z 2) (Z 3 + 1)))).1, T, (cwZ T Z K (lf T (Z 2) (Z 3 + 1)) (gb T (Z 2) (lf T (Z 2) (Z 3 + 1)))).2.1)) := hD
                  have hP : va_P (dC, dI) vwCl (lmW cA a0 a1 a2 ((cpZ T Z K).1, T, (cpZ T Z K).2.1)) H := by rw [cpZ, cpR, if_neg (by omega), if_neg (by rw [c_12]; decide), if_neg (by omega), if_neg (by omega), if_neg (by rw [c_175]; decide), if_pos ⟨by omega, by simpa using c_210⟩]; exact hP
                  have hD : va_D A (lmW cA a0 a1 a2 ((cpZ T Z K).1, T, (cpZ T Z K).2.1)) := by rw [cpZ, cpR, if_neg (by omega), if_neg (by rw [c_12]; decide), if_neg (by omega), if_neg (by omega), if_neg (by rw [c_175]; decide), if_pos ⟨by omega, by simpa using c_210⟩]; exact hD
                  exact W.iret (v := nI ((cwZ T Z K (lf T (Z 2) (Z 3 + 1)) (gb T (Z 2) (lf T (Z 2) (Z 3 + 1)))).2.2)) hx hb hr (fun t ht hW => ⟨⟨_, ((cpZ T Z K).1, T, (cpZ T Z K).2.1), rfl, ⟨by rw [cpZ, cpR, if_neg (by omega), if_neg (by rw [c_12]; decide), if_neg (by omega), if_neg (by omega), if_neg (by rw [c_175]; decide), if_pos ⟨by omega, by simpa using c_210⟩], rfl⟩, by rw [ht]; exact hP, va_K.moved hW.alike hK, hD⟩, hS.F ht⟩) hS.2.2 dX0_cutPiece_134
            · have c_175 := mt (b2i_z (isQ (gb T (Z 2) (Z 3)))).mpr c_175
              refine lv_aload_n hx hb dX0_cutPiece_109 rfl (lv_at hl 3 rfl) ?_
              refine lv_iload_n hx hb dX0_cutPiece_110 rfl (lv_at hl 2 rfl) ?_
              refine lm_calli (va_runV (As := [.int (bI (gb T (Z 2) (Z 3)))]) (rest := []) ⟨hx, hb, hml, hown, hts⟩ (c_cutQuote l dC dI cA a0 a1 a2 s.heap.size Z T K (gb T (Z 2) (Z 3)) (show Z 2 ≤ 32768 by omega) (show gb T (Z 2) (Z 3) < 256 by omega) (show Z 4 < 65536 by omega) (show Z 6 < 2 ^ 29 by omega) (show Z 10 < 2 ^ 29 by omega) (show Z 11 ≤ 1 by omega) (show Z 14 < 2 ^ 29 by omega) (show Z 15 < 2 ^ 29 by omega) (show Z 3 < Z 2 by omega)) (cwV 1 hts (gV (fun _ h => h) ml_X0_127 im_X0_cutQuote se_X0_cutQuote ini_X0 co_X0_cutQuote) rfl rfl rfl pd_X0_cutQuote ⟨Nat.le_of_ble_eq_true rfl, Nat.le_of_ble_eq_true rfl⟩) (lm_preS hK hP hD) rfl rfl hl.1 rfl (lv_room (Nat.le_of_ble_eq_true rfl)) dX0_cutPiece_111 ⟨Nat.zero_le _, Nat.zero_le _⟩) hD hS hA (fun r_247 u_246 H locs q_245 hP hD hS => ?_)
              obtain ⟨rfl, rfl⟩ := q_245
              have hP : va_P (dC, dI) vwCl (lmW cA a0 a1 a2 ((cqZ T Z K (gb T (Z 2) (Z 3))).1, T, (cqZ T Z K (gb T (Z 2) (Z 3))).2.1)) H := hP
              have hD : va_D A (lmW cA a0 a1 a2 ((cqZ T Z K (gb T (Z 2) (Z 3))).1, T, (cqZ T Z K (gb T (Z 2) (Z 3))).2.1)) := hD
              have hP : va_P (dC, dI) vwCl (lmW cA a0 a1 a2 ((cpZ T Z K).1, T, (cpZ T Z K).2.1)) H := by rw [cpZ, cpR, if_neg (by omega), if_neg (by rw [c_12]; decide), if_neg (by omega), if_neg (by omega), if_pos (by simpa using c_175)]; exact hP
              have hD : va_D A (lmW cA a0 a1 a2 ((cpZ T Z K).1, T, (cpZ T Z K).2.1)) := by rw [cpZ, cpR, if_neg (by omega), if_neg (by rw [c_12]; decide), if_neg (by omega), if_neg (by omega), if_pos (by simpa using c_175)]; exact hD
              exact W.iret (v := nI ((cqZ T Z K (gb T (Z 2) (Z 3))).2.2)) hx hb hr (fun t ht hW => ⟨⟨_, ((cpZ T Z K).1, T, (cpZ T Z K).2.1), rfl, ⟨by rw [cpZ, cpR, if_neg (by omega), if_neg (by rw [c_12]; decide), if_neg (by omega), if_neg (by omega), if_pos (by simpa using c_175)], rfl⟩, by rw [ht]; exact hP, va_K.moved hW.alike hK, hD⟩, hS.F ht⟩) hS.2.2 dX0_cutPiece_114
          · have c_172 := (bI_eqN (by omega)).mp c_172
            refine lv_iload_n hx hb dX0_cutPiece_86 rfl (lv_at hl 0 rfl) ?_
            refine lv_bipush (v := nI 47) hx hb dX0_cutPiece_87 (by decide) ?_
            refine lv_icmp_ne (tgt := 102) hx hb dX0_cutPiece_89 (by decide) (fun c_248 => ?_) (fun c_248 => ?_)
            · have c_248 := mt (bI_eqN (by omega)).mpr c_248
              refine lv_iload_n hx hb dX0_cutPiece_102 rfl (lv_at hl 2 rfl) ?_
              refine vp_callSi (va_Run.run (va_runS (As := [.int (bI (gb T (Z 2) (Z 3)))]) (rest := []) ⟨hx, hb, hml, hown, hts⟩ (c_isQuote l (gb T (Z 2) (Z 3))) (cwS 1 hts (gS (fun _ h => h) ml_X0_124 sm_X0_isQuote ini_X0 co_X0_isQuote) rfl rfl rfl pd_X0_isQuote ⟨Nat.le_of_ble_eq_true rfl, Nat.le_of_ble_eq_true rfl⟩) st_pre rfl rfl hl.1 rfl (lv_room (Nat.le_of_ble_eq_true rfl)) dX0_cutPiece_103 ⟨Nat.zero_le _, Nat.zero_le _⟩)) (fun r_249 (e_250 : r_249 = b2i (isQ (gb T (Z 2) (Z 3)))) => ?_)
              subst e_250
              refine lv_if_eq (tgt := 115) hx hb dX0_cutPiece_106 (by decide) (fun c_251 => ?_) (fun c_251 => ?_)
              · have c_251 := (b2i_z (isQ (gb T (Z 2) (Z 3)))).mp c_251
                refine lv_iload_n hx hb dX0_cutPiece_115 rfl (lv_at hl 2 rfl) ?_
                refine lv_bipush (v := nI 76) hx hb dX0_cutPiece_116 (by decide) ?_
                refine lv_icmp_ne (tgt := 135) hx hb dX0_cutPiece_118 (by decide) (fun c_252 => ?_) (fun c_252 => ?_)
                · have c_252 := mt (bI_eqN (by omega)).mpr c_252
                  refine lv_iload_n hx hb dX0_cutPiece_135 rfl (lv_at hl 2 rfl) ?_
                  refine vp_callSi (va_Run.run (va_runS (As := [.int (bI (gb T (Z 2) (Z 3)))]) (rest := []) ⟨hx, hb, hml, hown, hts⟩ (c_isLetter l (gb T (Z 2) (Z 3))) (cwS 1 hts (gS (fun _ h => h) ml_X0_133 sm_X0_isLetter ini_X0 co_X0_isLetter) rfl rfl rfl pd_X0_isLetter ⟨Nat.le_of_ble_eq_true rfl, Nat.le_of_ble_eq_true rfl⟩) st_pre rfl rfl hl.1 rfl (lv_room (Nat.le_of_ble_eq_true rfl)) dX0_cutPiece_136 ⟨Nat.zero_le _, Nat.zero_le _⟩)) (fun r_253 (e_254 : r_253 = b2i (isL (gb T (Z 2) (Z 3)))) => ?_)
                  subst e_254
                  refine lv_if_eq (tgt := 153) hx hb dX0_cutPiece_139 (by decide) (fun c_255 => ?_) (fun c_255 => ?_)
                  · have c_255 := (b2i_z (isL (gb T (Z 2) (Z 3)))).mp c_255
                    refine lv_iload_n hx hb dX0_cutPiece_153 rfl (lv_at hl 2 rfl) ?_
                    refine vp_callSi (va_Run.run (va_runS (As := [.int (bI (gb T (Z 2) (Z 3)))]) (rest := []) ⟨hx, hb, hml, hown, hts⟩ (c_isDigit l (gb T (Z 2) (Z 3))) (cwS 1 hts (gS (fun _ h => h) ml_X0_142 sm_X0_isDigit ini_X0 co_X0_isDigit) rfl rfl rfl pd_X0_isDigit ⟨Nat.le_of_ble_eq_true rfl, Nat.le_of_ble_eq_true rfl⟩) st_pre rfl rfl hl.1 rfl (lv_room (Nat.le_of_ble_eq_true rfl)) dX0_cutPiece_154 ⟨Nat.zero_le _, Nat.zero_le _⟩)) (fun r_256 (e_257 : r_256 = b2i (isD (gb T (Z 2) (Z 3)))) => ?_)
                    subst e_257
                    refine lv_if_ne (tgt := 173) hx hb dX0_cutPiece_157 (by decide) (fun c_258 => ?_) (fun c_258 => ?_)
                    · have c_258 := mt (b2i_z (isD (gb T (Z 2) (Z 3)))).mpr c_258
                      refine lv_aload_n hx hb dX0_cutPiece_173 rfl (lv_at hl 3 rfl) ?_
                      refine lv_iconst (v := nI 2) hx hb dX0_cutPiece_174 (by decide) ?_
                      refine lv_aload_n hx hb dX0_cutPiece_175 rfl (lv_at hl 3 rfl) ?_
                      refine lv_iload_n hx hb dX0_cutPiece_176 rfl (lv_at hl 1 rfl) ?_
                      refine lv_iload_n hx hb dX0_cutPiece_177 rfl (lv_at hl 2 rfl) ?_
                      refine vp_callSi (va_Run.run (va_runV (As := [.int (nI (lf T (Z 2) (Z 3 + 1))), .int (bI (gb T (Z 2) (Z 3)))]) (rest := [.int (nI 2), .ref a0]) ⟨hx, hb, hml, hown, hts⟩ (c_numberEnd l dC dI cA a0 a1 a2 Z T K (lf T (Z 2) (Z 3 + 1)) (gb T (Z 2) (Z 3)) (show Z 2 ≤ 32768 by omega) (show lf T (Z 2) (Z 3 + 1) < 2 ^ 30 - 1 by omega)) (cwV 2 hts (gV (fun _ h => h) ml_X0_145 im_X0_numberEnd se_X0_numberEnd ini_X0 co_X0_numberEnd) rfl rfl rfl pd_X0_numberEnd ⟨Nat.le_of_ble_eq_true rfl, Nat.le_of_ble_eq_true rfl⟩) (lm_preR hK hP) rfl rfl hl.1 rfl (lv_room (Nat.le_of_ble_eq_true rfl)) dX0_cutPiece_178 ⟨Nat.zero_le _, Nat.zero_le _⟩)) (fun r_259 (e_260 : r_259 = nI (nuE T (Z 2) (lf T (Z 2) (Z 3 + 1)) (gb T (Z 2) (Z 3)))) => ?_)
                      subst e_260
                      have := nuE_b T (Z 2) (lf T (Z 2) (Z 3 + 1)) (gb T (Z 2) (Z 3))
                      refine lm_calli (va_runV (As := [.int (nI 2), .int (nI (nuE T (Z 2) (lf T (Z 2) (Z 3 + 1)) (gb T (Z 2) (Z 3))))]) (rest := []) ⟨hx, hb, hml, hown, hts⟩ (c_addToken l dC dI cA a0 a1 a2 s.heap.size Z T K 2 (nuE T (Z 2) (lf T (Z 2) (Z 3 + 1)) (gb T (Z 2) (Z 3))) (show Z 2 ≤ 32768 by omega) (show nuE T (Z 2) (lf T (Z 2) (Z 3 + 1)) (gb T (Z 2) (Z 3)) ≤ Z 2 by omega) (show Z 3 ≤ Z 2 by omega) (show Z 4 < 65536 by omega) (show Z 10 < 2 ^ 29 by omega) (show Z 11 ≤ 1 by omega) (show 2 < 16 by omega)) (cwV 2 hts (gV (fun _ h => h) ml_X0_139 im_X0_addToken se_X0_addToken ini_X0 co_X0_addToken) rfl rfl rfl pd_X0_addToken ⟨Nat.le_of_ble_eq_true rfl, Nat.le_of_ble_eq_true rfl⟩) (lm_preS hK hP hD) rfl rfl hl.1 rfl (lv_room (Nat.le_of_ble_eq_true rfl)) dX0_cutPiece_181 ⟨Nat.zero_le _, Nat.zero_le _⟩) hD hS hA (fun r_263 u_262 H locs q_261 hP hD hS => ?_)
                      obtain ⟨rfl, rfl⟩ := q_261
                      have hP : va_P (dC, dI) vwCl (lmW cA a0 a1 a2 ((adZ T Z (nuE T (Z 2) (lf T (Z 2) (Z 3 + 1)) (gb T (Z 2) (Z 3)))), T, (adK T Z K 2 (nuE T (Z 2) (lf T (Z 2) (Z 3 + 1)) (gb T (Z 2) (Z 3)))))) H := hP
                      have hD : va_D A (lmW cA a0 a1 a2 ((adZ T Z (nuE T (Z 2) (lf T (Z 2) (Z 3 + 1)) (gb T (Z 2) (Z 3)))), T, (adK T Z K 2 (nuE T (Z 2) (lf T (Z 2) (Z 3 + 1)) (gb T (Z 2) (Z 3)))))) := hD
                      have hP : va_P (dC, dI) vwCl (lmW cA a0 a1 a2 ((cpZ T Z K).1, T, (cpZ T Z K).2.1)) H := by rw [cpZ, cpR, if_neg (by omega), if_neg (by rw [c_12]; decide), if_neg (by omega), if_neg (by omega), if_neg (by rw [c_251]; decide), if_neg (fun z => by have := z.1; omega), if_neg (by rw [c_255]; decide), if_pos (Or.inl (by simpa using c_258))]; exact hP
                      have hD : va_D A (lmW cA a0 a1 a2 ((cpZ T Z K).1, T, (cpZ T Z K).2.1)) := by rw [cpZ, cpR, if_neg (by omega), if_neg (by rw [c_12]; decide), if_neg (by omega), if_neg (by omega), if_neg (by rw [c_251]; decide), if_neg (fun z => by have := z.1; omega), if_neg (by rw [c_255]; decide), if_pos (Or.inl (by simpa using c_258))]; exact hD
                      exact W.iret (v := nI 0) hx hb hr (fun t ht hW => ⟨⟨_, ((cpZ T Z K).1, T, (cpZ T Z K).2.1), rfl, ⟨by rw [cpZ, cpR, if_neg (by omega), if_neg (by rw [c_12]; decide), if_neg (by omega), if_neg (by omega), if_neg (by rw [c_251]; decide), if_neg (fun z => by have := z.1; omega), if_neg (by rw [c_255]; decide), if_pos (Or.inl (by simpa using c_258))], rfl⟩, by rw [ht]; exact hP, va_K.moved hW.alike hK, hD⟩, hS.F ht⟩) hS.2.2 dX0_cutPiece_184
                    · have c_258 := (b2i_z (isD (gb T (Z 2) (Z 3)))).mp c_258
                      refine lv_iload_n hx hb dX0_cutPiece_160 rfl (lv_at hl 2 rfl) ?_
                      refine lv_bipush (v := nI 46) hx hb dX0_cutPiece_161 (by decide) ?_
                      refine lv_icmp_ne (tgt := 185) hx hb dX0_cutPiece_163 (by decide) (fun c_264 => ?_) (fun c_264 => ?_)
                      · have c_264 := mt (bI_eqN (by omega)).mpr c_264
                        refine lv_aload_n hx hb dX0_cutPiece_185 rfl (lv_at hl 3 rfl) ?_
                        refine lv_iload_n hx hb dX0_cutPiece_186 rfl (lv_at hl 2 rfl) ?_
                        refine lv_iload_n hx hb dX0_cutPiece_187 rfl (lv_at hl 0 rfl) ?_
                        refine lv_iload_n hx hb dX0_cutPiece_188 rfl (lv_at hl 1 rfl) ?_
                        have hwH := hw
                        refine lm_calli (va_runV (As := [.int (bI (gb T (Z 2) (Z 3))), .int (bI (gb T (Z 2) (lf T (Z 2) (Z 3 + 1)))), .int (nI (lf T (Z 2) (Z 3 + 1)))]) (rest := []) ⟨hx, hb, hml, hown, hts⟩ (c_cutSign l dC dI cA a0 a1 a2 dK dV A0 s.heap.size Z T K (gb T (Z 2) (Z 3)) (gb T (Z 2) (lf T (Z 2) (Z 3 + 1))) (lf T (Z 2) (Z 3 + 1)) (show Z 2 ≤ 32768 by omega) (show Z 4 < 65536 by omega) (show Z 10 < 2 ^ 29 by omega) (show Z 11 ≤ 1 by omega) (show Z 3 ≤ Z 2 by omega) (show lf T (Z 2) (Z 3 + 1) ≤ Z 2 by omega) (show gb T (Z 2) (lf T (Z 2) (Z 3 + 1)) = gb T (Z 2) (lf T (Z 2) (Z 3 + 1)) by omega)) (cwV 3 hts (gV (fun _ h => h) ml_X0_148 im_X0_cutSign se_X0_cutSign ini_X0 co_X0_cutSign) rfl rfl rfl pd_X0_cutSign ⟨Nat.le_of_ble_eq_true rfl, Nat.le_of_ble_eq_true rfl⟩) (lm_preW hK hP hD hwH) rfl rfl hl.1 rfl (lv_room (Nat.le_of_ble_eq_true rfl)) dX0_cutPiece_189 ⟨Nat.zero_le _, Nat.zero_le _⟩) hD hS hA (fun r_267 u_266 H locs q_265 hP hD hS => ?_)
                        obtain ⟨rfl, rfl⟩ := q_265
                        have hP : va_P (dC, dI) vwCl (lmW cA a0 a1 a2 ((csZ T Z K (gb T (Z 2) (Z 3)) (gb T (Z 2) (lf T (Z 2) (Z 3 + 1))) (lf T (Z 2) (Z 3 + 1))).1, T, (csZ T Z K (gb T (Z 2) (Z 3)) (gb T (Z 2) (lf T (Z 2) (Z 3 + 1))) (lf T (Z 2) (Z 3 + 1))).2.1)) H := hP
                        have hD : va_D A (lmW cA a0 a1 a2 ((csZ T Z K (gb T (Z 2) (Z 3)) (gb T (Z 2) (lf T (Z 2) (Z 3 + 1))) (lf T (Z 2) (Z 3 + 1))).1, T, (csZ T Z K (gb T (Z 2) (Z 3)) (gb T (Z 2) (lf T (Z 2) (Z 3 + 1))) (lf T (Z 2) (Z 3 + 1))).2.1)) := hD
                        have hP : va_P (dC, dI) vwCl (lmW cA a0 a1 a2 ((cpZ T Z K).1, T, (cpZ T Z K).2.1)) H := by rw [cpZ, cpR, if_neg (by omega), if_neg (by rw [c_12]; decide), if_neg (by omega), if_neg (by omega), if_neg (by rw [c_251]; decide), if_neg (fun z => by have := z.1; omega), if_neg (by rw [c_255]; decide), if_neg (fun z => by rcases z with z | z; exact absurd z (by rw [c_258]; decide); have := z.1; omega)]; exact hP
                        have hD : va_D A (lmW cA a0 a1 a2 ((cpZ T Z K).1, T, (cpZ T Z K).2.1)) := by rw [cpZ, cpR, if_neg (by omega), if_neg (by rw [c_12]; decide), if_neg (by omega), if_neg (by omega), if_neg (by rw [c_251]; decide), if_neg (fun z => by have := z.1; omega), if_neg (by rw [c_255]; decide), if_neg (fun z => by rcases z with z | z; exact absurd z (by rw [c_258]; decide); have := z.1; omega)]; exact hD
                        exact W.iret (v := nI ((csZ T Z K (gb T (Z 2) (Z 3)) (gb T (Z 2) (lf T (Z 2) (Z 3 + 1))) (lf T (Z 2) (Z 3 + 1))).2.2)) hx hb hr (fun t ht hW => ⟨⟨_, ((cpZ T Z K).1, T, (cpZ T Z K).2.1), rfl, ⟨by rw [cpZ, cpR, if_neg (by omega), if_neg (by rw [c_12]; decide), if_neg (by omega), if_neg (by omega), if_neg (by rw [c_251]; decide), if_neg (fun z => by have := z.1; omega), if_neg (by rw [c_255]; decide), if_neg (fun z => by rcases z with z | z; exact absurd z (by rw [c_258]; decide); have := z.1; omega)], rfl⟩, by rw [ht]; exact hP, va_K.moved hW.alike hK, hD⟩, hS.F ht⟩) hS.2.2 dX0_cutPiece_192
                      · have c_264 := (bI_eqN (by omega)).mp c_264
                        refine lv_iload_n hx hb dX0_cutPiece_166 rfl (lv_at hl 0 rfl) ?_
                        refine vp_callSi (va_Run.run (va_runS (As := [.int (bI (gb T (Z 2) (lf T (Z 2) (Z 3 + 1))))]) (rest := []) ⟨hx, hb, hml, hown, hts⟩ (c_isDigit l (gb T (Z 2) (lf T (Z 2) (Z 3 + 1)))) (cwS 1 hts (gS (fun _ h => h) ml_X0_142 sm_X0_isDigit ini_X0 co_X0_isDigit) rfl rfl rfl pd_X0_isDigit ⟨Nat.le_of_ble_eq_true rfl, Nat.le_of_ble_eq_true rfl⟩) st_pre rfl rfl hl.1 rfl (lv_room (Nat.le_of_ble_eq_true rfl)) dX0_cutPiece_167 ⟨Nat.zero_le _, Nat.zero_le _⟩)) (fun r_268 (e_269 : r_268 = b2i (isD (gb T (Z 2) (lf T (Z 2) (Z 3 + 1))))) => ?_)
                        subst e_269
                        refine lv_if_eq (tgt := 185) hx hb dX0_cutPiece_170 (by decide) (fun c_270 => ?_) (fun c_270 => ?_)
                        · have c_270 := (b2i_z (isD (gb T (Z 2) (lf T (Z 2) (Z 3 + 1))))).mp c_270
                          refine lv_aload_n hx hb dX0_cutPiece_185 rfl (lv_at hl 3 rfl) ?_
                          refine lv_iload_n hx hb dX0_cutPiece_186 rfl (lv_at hl 2 rfl) ?_
                          refine lv_iload_n hx hb dX0_cutPiece_187 rfl (lv_at hl 0 rfl) ?_
                          refine lv_iload_n hx hb dX0_cutPiece_188 rfl (lv_at hl 1 rfl) ?_
                          have hwH := hw
                          refine lm_calli (va_runV (As := [.int (bI (gb T (Z 2) (Z 3))), .int (bI (gb T (Z 2) (lf T (Z 2) (Z 3 + 1)))), .int (nI (lf T (Z 2) (Z 3 + 1)))]) (rest := []) ⟨hx, hb, hml, hown, hts⟩ (c_cutSign l dC dI cA a0 a1 a2 dK dV A0 s.heap.size Z T K (gb T (Z 2) (Z 3)) (gb T (Z 2) (lf T (Z 2) (Z 3 + 1))) (lf T (Z 2) (Z 3 + 1)) (show Z 2 ≤ 32768 by omega) (show Z 4 < 65536 by omega) (show Z 10 < 2 ^ 29 by omega) (show Z 11 ≤ 1 by omega) (show Z 3 ≤ Z 2 by omega) (show lf T (Z 2) (Z 3 + 1) ≤ Z 2 by omega) (show gb T (Z 2) (lf T (Z 2) (Z 3 + 1)) = gb T (Z 2) (lf T (Z 2) (Z 3 + 1)) by omega)) (cwV 3 hts (gV (fun _ h => h) ml_X0_148 im_X0_cutSign se_X0_cutSign ini_X0 co_X0_cutSign) rfl rfl rfl pd_X0_cutSign ⟨Nat.le_of_ble_eq_true rfl, Nat.le_of_ble_eq_true rfl⟩) (lm_preW hK hP hD hwH) rfl rfl hl.1 rfl (lv_room (Nat.le_of_ble_eq_true rfl)) dX0_cutPiece_189 ⟨Nat.zero_le _, Nat.zero_le _⟩) hD hS hA (fun r_273 u_272 H locs q_271 hP hD hS => ?_)
                          obtain ⟨rfl, rfl⟩ := q_271
                          have hP : va_P (dC, dI) vwCl (lmW cA a0 a1 a2 ((csZ T Z K (gb T (Z 2) (Z 3)) (gb T (Z 2) (lf T (Z 2) (Z 3 + 1))) (lf T (Z 2) (Z 3 + 1))).1, T, (csZ T Z K (gb T (Z 2) (Z 3)) (gb T (Z 2) (lf T (Z 2) (Z 3 + 1))) (lf T (Z 2) (Z 3 + 1))).2.1)) H := hP
                          have hD : va_D A (lmW cA a0 a1 a2 ((csZ T Z K (gb T (Z 2) (Z 3)) (gb T (Z 2) (lf T (Z 2) (Z 3 + 1))) (lf T (Z 2) (Z 3 + 1))).1, T, (csZ T Z K (gb T (Z 2) (Z 3)) (gb T (Z 2) (lf T (Z 2) (Z 3 + 1))) (lf T (Z 2) (Z 3 + 1))).2.1)) := hD
                          have hP : va_P (dC, dI) vwCl (lmW cA a0 a1 a2 ((cpZ T Z K).1, T, (cpZ T Z K).2.1)) H := by rw [cpZ, cpR, if_neg (by omega), if_neg (by rw [c_12]; decide), if_neg (by omega), if_neg (by omega), if_neg (by rw [c_251]; decide), if_neg (fun z => by have := z.1; omega), if_neg (by rw [c_255]; decide), if_neg (fun z => by rcases z with z | z; exact absurd z (by rw [c_258]; decide); exact absurd z.2 (by rw [c_270]; decide))]; exact hP
                          have hD : va_D A (lmW cA a0 a1 a2 ((cpZ T Z K).1, T, (cpZ T Z K).2.1)) := by rw [cpZ, cpR, if_neg (by omega), if_neg (by rw [c_12]; decide), if_neg (by omega), if_neg (by omega), if_neg (by rw [c_251]; decide), if_neg (fun z => by have := z.1; omega), if_neg (by rw [c_255]; decide), if_neg (fun z => by rcases z with z | z; exact absurd z (by rw [c_258]; decide); exact absurd z.2 (by rw [c_270]; decide))]; exact hD
                          exact W.iret (v := nI ((csZ T Z K (gb T (Z 2) (Z 3)) (gb T (Z 2) (lf T (Z 2) (Z 3 + 1))) (lf T (Z 2) (Z 3 + 1))).2.2)) hx hb hr (fun t ht hW => ⟨⟨_, ((cpZ T Z K).1, T, (cpZ T Z K).2.1), rfl, ⟨by rw [cpZ, cpR, if_neg (by omega), if_neg (by rw [c_12]; decide), if_neg (by omega), if_neg (by omega), if_neg (by rw [c_251]; decide), if_neg (fun z => by have := z.1; omega), if_neg (by rw [c_255]; decide), if_neg (fun z => by rcases z with z | z; exact absurd z (by rw [c_258]; decide); exact absurd z.2 (by rw [c_270]; decide))], rfl⟩, by rw [ht]; exact hP, va_K.moved hW.alike hK, hD⟩, hS.F ht⟩) hS.2.2 dX0_cutPiece_192
                        · have c_270 := mt (b2i_z (isD (gb T (Z 2) (lf T (Z 2) (Z 3 + 1))))).mpr c_270
                          refine lv_aload_n hx hb dX0_cutPiece_173 rfl (lv_at hl 3 rfl) ?_
                          refine lv_iconst (v := nI 2) hx hb dX0_cutPiece_174 (by decide) ?_
                          refine lv_aload_n hx hb dX0_cutPiece_175 rfl (lv_at hl 3 rfl) ?_
                          refine lv_iload_n hx hb dX0_cutPiece_176 rfl (lv_at hl 1 rfl) ?_
                          refine lv_iload_n hx hb dX0_cutPiece_177 rfl (lv_at hl 2 rfl) ?_
                          refine vp_callSi (va_Run.run (va_runV (As := [.int (nI (lf T (Z 2) (Z 3 + 1))), .int (bI (gb T (Z 2) (Z 3)))]) (rest := [.int (nI 2), .ref a0]) ⟨hx, hb, hml, hown, hts⟩ (c_numberEnd l dC dI cA a0 a1 a2 Z T K (lf T (Z 2) (Z 3 + 1)) (gb T (Z 2) (Z 3)) (show Z 2 ≤ 32768 by omega) (show lf T (Z 2) (Z 3 + 1) < 2 ^ 30 - 1 by omega)) (cwV 2 hts (gV (fun _ h => h) ml_X0_145 im_X0_numberEnd se_X0_numberEnd ini_X0 co_X0_numberEnd) rfl rfl rfl pd_X0_numberEnd ⟨Nat.le_of_ble_eq_true rfl, Nat.le_of_ble_eq_true rfl⟩) (lm_preR hK hP) rfl rfl hl.1 rfl (lv_room (Nat.le_of_ble_eq_true rfl)) dX0_cutPiece_178 ⟨Nat.zero_le _, Nat.zero_le _⟩)) (fun r_274 (e_275 : r_274 = nI (nuE T (Z 2) (lf T (Z 2) (Z 3 + 1)) (gb T (Z 2) (Z 3)))) => ?_)
                          subst e_275
                          have := nuE_b T (Z 2) (lf T (Z 2) (Z 3 + 1)) (gb T (Z 2) (Z 3))
                          refine lm_calli (va_runV (As := [.int (nI 2), .int (nI (nuE T (Z 2) (lf T (Z 2) (Z 3 + 1)) (gb T (Z 2) (Z 3))))]) (rest := []) ⟨hx, hb, hml, hown, hts⟩ (c_addToken l dC dI cA a0 a1 a2 s.heap.size Z T K 2 (nuE T (Z 2) (lf T (Z 2) (Z 3 + 1)) (gb T (Z 2) (Z 3))) (show Z 2 ≤ 32768 by omega) (show nuE T (Z 2) (lf T (Z 2) (Z 3 + 1)) (gb T (Z 2) (Z 3)) ≤ Z 2 by omega) (show Z 3 ≤ Z 2 by omega) (show Z 4 < 65536 by omega) (show Z 10 < 2 ^ 29 by omega) (show Z 11 ≤ 1 by omega) (show 2 < 16 by omega)) (cwV 2 hts (gV (fun _ h => h) ml_X0_139 im_X0_addToken se_X0_addToken ini_X0 co_X0_addToken) rfl rfl rfl pd_X0_addToken ⟨Nat.le_of_ble_eq_true rfl, Nat.le_of_ble_eq_true rfl⟩) (lm_preS hK hP hD) rfl rfl hl.1 rfl (lv_room (Nat.le_of_ble_eq_true rfl)) dX0_cutPiece_181 ⟨Nat.zero_le _, Nat.zero_le _⟩) hD hS hA (fun r_278 u_277 H locs q_276 hP hD hS => ?_)
                          obtain ⟨rfl, rfl⟩ := q_276
                          have hP : va_P (dC, dI) vwCl (lmW cA a0 a1 a2 ((adZ T Z (nuE T (Z 2) (lf T (Z 2) (Z 3 + 1)) (gb T (Z 2) (Z 3)))), T, (adK T Z K 2 (nuE T (Z 2) (lf T (Z 2) (Z 3 + 1)) (gb T (Z 2) (Z 3)))))) H := hP
                          have hD : va_D A (lmW cA a0 a1 a2 ((adZ T Z (nuE T (Z 2) (lf T (Z 2) (Z 3 + 1)) (gb T (Z 2) (Z 3)))), T, (adK T Z K 2 (nuE T (Z 2) (lf T (Z 2) (Z 3 + 1)) (gb T (Z 2) (Z 3)))))) := hD
                          have hP : va_P (dC, dI) vwCl (lmW cA a0 a1 a2 ((cpZ T Z K).1, T, (cpZ T Z K).2.1)) H := by rw [cpZ, cpR, if_neg (by omega), if_neg (by rw [c_12]; decide), if_neg (by omega), if_neg (by omega), if_neg (by rw [c_251]; decide), if_neg (fun z => by have := z.1; omega), if_neg (by rw [c_255]; decide), if_pos (Or.inr ⟨by omega, by simpa using c_270⟩)]; exact hP
                          have hD : va_D A (lmW cA a0 a1 a2 ((cpZ T Z K).1, T, (cpZ T Z K).2.1)) := by rw [cpZ, cpR, if_neg (by omega), if_neg (by rw [c_12]; decide), if_neg (by omega), if_neg (by omega), if_neg (by rw [c_251]; decide), if_neg (fun z => by have := z.1; omega), if_neg (by rw [c_255]; decide), if_pos (Or.inr ⟨by omega, by simpa using c_270⟩)]; exact hD
                          exact W.iret (v := nI 0) hx hb hr (fun t ht hW => ⟨⟨_, ((cpZ T Z K).1, T, (cpZ T Z K).2.1), rfl, ⟨by rw [cpZ, cpR, if_neg (by omega), if_neg (by rw [c_12]; decide), if_neg (by omega), if_neg (by omega), if_neg (by rw [c_251]; decide), if_neg (fun z => by have := z.1; omega), if_neg (by rw [c_255]; decide), if_pos (Or.inr ⟨by omega, by simpa using c_270⟩)], rfl⟩, by rw [ht]; exact hP, va_K.moved hW.alike hK, hD⟩, hS.F ht⟩) hS.2.2 dX0_cutPiece_184
                  · have c_255 := mt (b2i_z (isL (gb T (Z 2) (Z 3)))).mpr c_255
                    refine lv_aload_n hx hb dX0_cutPiece_142 rfl (lv_at hl 3 rfl) ?_
                    refine lv_iconst (v := nI 1) hx hb dX0_cutPiece_143 (by decide) ?_
                    refine lv_aload_n hx hb dX0_cutPiece_144 rfl (lv_at hl 3 rfl) ?_
                    refine lv_iload_n hx hb dX0_cutPiece_145 rfl (lv_at hl 1 rfl) ?_
                    refine vp_callSi (va_Run.run (va_runV (As := [.int (nI (lf T (Z 2) (Z 3 + 1)))]) (rest := [.int (nI 1), .ref a0]) ⟨hx, hb, hml, hown, hts⟩ (c_nameEnd l dC dI cA a0 a1 a2 Z T K (lf T (Z 2) (Z 3 + 1)) (show Z 2 ≤ 32768 by omega) (show lf T (Z 2) (Z 3 + 1) < 2 ^ 30 - 1 by omega)) (cwV 1 hts (gV (fun _ h => h) ml_X0_136 im_X0_nameEnd se_X0_nameEnd ini_X0 co_X0_nameEnd) rfl rfl rfl pd_X0_nameEnd ⟨Nat.le_of_ble_eq_true rfl, Nat.le_of_ble_eq_true rfl⟩) (lm_preR hK hP) rfl rfl hl.1 rfl (lv_room (Nat.le_of_ble_eq_true rfl)) dX0_cutPiece_146 ⟨Nat.zero_le _, Nat.zero_le _⟩)) (fun r_279 (e_280 : r_279 = nI (nmE T (Z 2) (lf T (Z 2) (Z 3 + 1)))) => ?_)
                    subst e_280
                    have := nmE_b T (Z 2) (lf T (Z 2) (Z 3 + 1))
                    refine lm_calli (va_runV (As := [.int (nI 1), .int (nI (nmE T (Z 2) (lf T (Z 2) (Z 3 + 1))))]) (rest := []) ⟨hx, hb, hml, hown, hts⟩ (c_addToken l dC dI cA a0 a1 a2 s.heap.size Z T K 1 (nmE T (Z 2) (lf T (Z 2) (Z 3 + 1))) (show Z 2 ≤ 32768 by omega) (show nmE T (Z 2) (lf T (Z 2) (Z 3 + 1)) ≤ Z 2 by omega) (show Z 3 ≤ Z 2 by omega) (show Z 4 < 65536 by omega) (show Z 10 < 2 ^ 29 by omega) (show Z 11 ≤ 1 by omega) (show 1 < 16 by omega)) (cwV 2 hts (gV (fun _ h => h) ml_X0_139 im_X0_addToken se_X0_addToken ini_X0 co_X0_addToken) rfl rfl rfl pd_X0_addToken ⟨Nat.le_of_ble_eq_true rfl, Nat.le_of_ble_eq_true rfl⟩) (lm_preS hK hP hD) rfl rfl hl.1 rfl (lv_room (Nat.le_of_ble_eq_true rfl)) dX0_cutPiece_149 ⟨Nat.zero_le _, Nat.zero_le _⟩) hD hS hA (fun r_283 u_282 H locs q_281 hP hD hS => ?_)
                    obtain ⟨rfl, rfl⟩ := q_281
                    have hP : va_P (dC, dI) vwCl (lmW cA a0 a1 a2 ((adZ T Z (nmE T (Z 2) (lf T (Z 2) (Z 3 + 1)))), T, (adK T Z K 1 (nmE T (Z 2) (lf T (Z 2) (Z 3 + 1)))))) H := hP
                    have hD : va_D A (lmW cA a0 a1 a2 ((adZ T Z (nmE T (Z 2) (lf T (Z 2) (Z 3 + 1)))), T, (adK T Z K 1 (nmE T (Z 2) (lf T (Z 2) (Z 3 + 1)))))) := hD
                    have hP : va_P (dC, dI) vwCl (lmW cA a0 a1 a2 ((cpZ T Z K).1, T, (cpZ T Z K).2.1)) H := by rw [cpZ, cpR, if_neg (by omega), if_neg (by rw [c_12]; decide), if_neg (by omega), if_neg (by omega), if_neg (by rw [c_251]; decide), if_neg (fun z => by have := z.1; omega), if_pos (by simpa using c_255)]; exact hP
                    have hD : va_D A (lmW cA a0 a1 a2 ((cpZ T Z K).1, T, (cpZ T Z K).2.1)) := by rw [cpZ, cpR, if_neg (by omega), if_neg (by rw [c_12]; decide), if_neg (by omega), if_neg (by omega), if_neg (by rw [c_251]; decide), if_neg (fun z => by have := z.1; omega), if_pos (by simpa using c_255)]; exact hD
                    exact W.iret (v := nI 0) hx hb hr (fun t ht hW => ⟨⟨_, ((cpZ T Z K).1, T, (cpZ T Z K).2.1), rfl, ⟨by rw [cpZ, cpR, if_neg (by omega), if_neg (by rw [c_12]; decide), if_neg (by omega), if_neg (by omega), if_neg (by rw [c_251]; decide), if_neg (fun z => by have := z.1; omega), if_pos (by simpa using c_255)], rfl⟩, by rw [ht]; exact hP, va_K.moved hW.alike hK, hD⟩, hS.F ht⟩) hS.2.2 dX0_cutPiece_152
                · have c_252 := (bI_eqN (by omega)).mp c_252
                  refine lv_iload_n hx hb dX0_cutPiece_121 rfl (lv_at hl 0 rfl) ?_
                  refine vp_callSi (va_Run.run (va_runS (As := [.int (bI (gb T (Z 2) (lf T (Z 2) (Z 3 + 1))))]) (rest := []) ⟨hx, hb, hml, hown, hts⟩ (c_isQuote l (gb T (Z 2) (lf T (Z 2) (Z 3 + 1)))) (cwS 1 hts (gS (fun _ h => h) ml_X0_124 sm_X0_isQuote ini_X0 co_X0_isQuote) rfl rfl rfl pd_X0_isQuote ⟨Nat.le_of_ble_eq_true rfl, Nat.le_of_ble_eq_true rfl⟩) st_pre rfl rfl hl.1 rfl (lv_room (Nat.le_of_ble_eq_true rfl)) dX0_cutPiece_122 ⟨Nat.zero_le _, Nat.zero_le _⟩)) (fun r_284 (e_285 : r_284 = b2i (isQ (gb T (Z 2) (lf T (Z 2) (Z 3 + 1))))) => ?_)
                  subst e_285
                  refine lv_if_eq (tgt := 135) hx hb dX0_cutPiece_125 (by decide) (fun c_286 => ?_) (fun c_286 => ?_)
                  · have c_286 := (b2i_z (isQ (gb T (Z 2) (lf T (Z 2) (Z 3 + 1))))).mp c_286
                    refine lv_iload_n hx hb dX0_cutPiece_135 rfl (lv_at hl 2 rfl) ?_
                    refine vp_callSi (va_Run.run (va_runS (As := [.int (bI (gb T (Z 2) (Z 3)))]) (rest := []) ⟨hx, hb, hml, hown, hts⟩ (c_isLetter l (gb T (Z 2) (Z 3))) (cwS 1 hts (gS (fun _ h => h) ml_X0_133 sm_X0_isLetter ini_X0 co_X0_isLetter) rfl rfl rfl pd_X0_isLetter ⟨Nat.le_of_ble_eq_true rfl, Nat.le_of_ble_eq_true rfl⟩) st_pre rfl rfl hl.1 rfl (lv_room (Nat.le_of_ble_eq_true rfl)) dX0_cutPiece_136 ⟨Nat.zero_le _, Nat.zero_le _⟩)) (fun r_287 (e_288 : r_287 = b2i (isL (gb T (Z 2) (Z 3)))) => ?_)
                    subst e_288
                    refine lv_if_eq (tgt := 153) hx hb dX0_cutPiece_139 (by decide) (fun c_289 => ?_) (fun c_289 => ?_)
                    · have c_289 := (b2i_z (isL (gb T (Z 2) (Z 3)))).mp c_289
                      refine lv_iload_n hx hb dX0_cutPiece_153 rfl (lv_at hl 2 rfl) ?_
                      refine vp_callSi (va_Run.run (va_runS (As := [.int (bI (gb T (Z 2) (Z 3)))]) (rest := []) ⟨hx, hb, hml, hown, hts⟩ (c_isDigit l (gb T (Z 2) (Z 3))) (cwS 1 hts (gS (fun _ h => h) ml_X0_142 sm_X0_isDigit ini_X0 co_X0_isDigit) rfl rfl rfl pd_X0_isDigit ⟨Nat.le_of_ble_eq_true rfl, Nat.le_of_ble_eq_true rfl⟩) st_pre rfl rfl hl.1 rfl (lv_room (Nat.le_of_ble_eq_true rfl)) dX0_cutPiece_154 ⟨Nat.zero_le _, Nat.zero_le _⟩)) (fun r_290 (e_291 : r_290 = b2i (isD (gb T (Z 2) (Z 3)))) => ?_)
                      subst e_291
                      refine lv_if_ne (tgt := 173) hx hb dX0_cutPiece_157 (by decide) (fun c_292 => ?_) (fun c_292 => ?_)
                      · have c_292 := mt (b2i_z (isD (gb T (Z 2) (Z 3)))).mpr c_292
                        refine lv_aload_n hx hb dX0_cutPiece_173 rfl (lv_at hl 3 rfl) ?_
                        refine lv_iconst (v := nI 2) hx hb dX0_cutPiece_174 (by decide) ?_
                        refine lv_aload_n hx hb dX0_cutPiece_175 rfl (lv_at hl 3 rfl) ?_
                        refine lv_iload_n hx hb dX0_cutPiece_176 rfl (lv_at hl 1 rfl) ?_
                        refine lv_iload_n hx hb dX0_cutPiece_177 rfl (lv_at hl 2 rfl) ?_
                        refine vp_callSi (va_Run.run (va_runV (As := [.int (nI (lf T (Z 2) (Z 3 + 1))), .int (bI (gb T (Z 2) (Z 3)))]) (rest := [.int (nI 2), .ref a0]) ⟨hx, hb, hml, hown, hts⟩ (c_numberEnd l dC dI cA a0 a1 a2 Z T K (lf T (Z 2) (Z 3 + 1)) (gb T (Z 2) (Z 3)) (show Z 2 ≤ 32768 by omega) (show lf T (Z 2) (Z 3 + 1) < 2 ^ 30 - 1 by omega)) (cwV 2 hts (gV (fun _ h => h) ml_X0_145 im_X0_numberEnd se_X0_numberEnd ini_X0 co_X0_numberEnd) rfl rfl rfl pd_X0_numberEnd ⟨Nat.le_of_ble_eq_true rfl, Nat.le_of_ble_eq_true rfl⟩) (lm_preR hK hP) rfl rfl hl.1 rfl (lv_room (Nat.le_of_ble_eq_true rfl)) dX0_cutPiece_178 ⟨Nat.zero_le _, Nat.zero_le _⟩)) (fun r_293 (e_294 : r_293 = nI (nuE T (Z 2) (lf T (Z 2) (Z 3 + 1)) (gb T (Z 2) (Z 3)))) => ?_)
                        subst e_294
                        have := nuE_b T (Z 2) (lf T (Z 2) (Z 3 + 1)) (gb T (Z 2) (Z 3))
                        refine lm_calli (va_runV (As := [.int (nI 2), .int (nI (nuE T (Z 2) (lf T (Z 2) (Z 3 + 1)) (gb T (Z 2) (Z 3))))]) (rest := []) ⟨hx, hb, hml, hown, hts⟩ (c_addToken l dC dI cA a0 a1 a2 s.heap.size Z T K 2 (nuE T (Z 2) (lf T (Z 2) (Z 3 + 1)) (gb T (Z 2) (Z 3))) (show Z 2 ≤ 32768 by omega) (show nuE T (Z 2) (lf T (Z 2) (Z 3 + 1)) (gb T (Z 2) (Z 3)) ≤ Z 2 by omega) (show Z 3 ≤ Z 2 by omega) (show Z 4 < 65536 by omega) (show Z 10 < 2 ^ 29 by omega) (show Z 11 ≤ 1 by omega) (show 2 < 16 by omega)) (cwV 2 hts (gV (fun _ h => h) ml_X0_139 im_X0_addToken se_X0_addToken ini_X0 co_X0_addToken) rfl rfl rfl pd_X0_addToken ⟨Nat.le_of_ble_eq_true rfl, Nat.le_of_ble_eq_true rfl⟩) (lm_preS hK hP hD) rfl rfl hl.1 rfl (lv_room (Nat.le_of_ble_eq_true rfl)) dX0_cutPiece_181 ⟨Nat.zero_le _, Nat.zero_le _⟩) hD hS hA (fun r_297 u_296 H locs q_295 hP hD hS => ?_)
                        obtain ⟨rfl, rfl⟩ := q_295
                        have hP : va_P (dC, dI) vwCl (lmW cA a0 a1 a2 ((adZ T Z (nuE T (Z 2) (lf T (Z 2) (Z 3 + 1)) (gb T (Z 2) (Z 3)))), T, (adK T Z K 2 (nuE T (Z 2) (lf T (Z 2) (Z 3 + 1)) (gb T (Z 2) (Z 3)))))) H := hP
                        have hD : va_D A (lmW cA a0 a1 a2 ((adZ T Z (nuE T (Z 2) (lf T (Z 2) (Z 3 + 1)) (gb T (Z 2) (Z 3)))), T, (adK T Z K 2 (nuE T (Z 2) (lf T (Z 2) (Z 3 + 1)) (gb T (Z 2) (Z 3)))))) := hD
                        have hP : va_P (dC, dI) vwCl (lmW cA a0 a1 a2 ((cpZ T Z K).1, T, (cpZ T Z K).2.1)) H := by rw [cpZ, cpR, if_neg (by omega), if_neg (by rw [c_12]; decide), if_neg (by omega), if_neg (by omega), if_neg (by rw [c_251]; decide), if_neg (fun z => absurd z.2 (by rw [c_286]; decide)), if_neg (by rw [c_289]; decide), if_pos (Or.inl (by simpa using c_292))]; exact hP
                        have hD : va_D A (lmW cA a0 a1 a2 ((cpZ T Z K).1, T, (cpZ T Z K).2.1)) := by rw [cpZ, cpR, if_neg (by omega), if_neg (by rw [c_12]; decide), if_neg (by omega), if_neg (by omega), if_neg (by rw [c_251]; decide), if_neg (fun z => absurd z.2 (by rw [c_286]; decide)), if_neg (by rw [c_289]; decide), if_pos (Or.inl (by simpa using c_292))]; exact hD
                        exact W.iret (v := nI 0) hx hb hr (fun t ht hW => ⟨⟨_, ((cpZ T Z K).1, T, (cpZ T Z K).2.1), rfl, ⟨by rw [cpZ, cpR, if_neg (by omega), if_neg (by rw [c_12]; decide), if_neg (by omega), if_neg (by omega), if_neg (by rw [c_251]; decide), if_neg (fun z => absurd z.2 (by rw [c_286]; decide)), if_neg (by rw [c_289]; decide), if_pos (Or.inl (by simpa using c_292))], rfl⟩, by rw [ht]; exact hP, va_K.moved hW.alike hK, hD⟩, hS.F ht⟩) hS.2.2 dX0_cutPiece_184
                      · have c_292 := (b2i_z (isD (gb T (Z 2) (Z 3)))).mp c_292
                        refine lv_iload_n hx hb dX0_cutPiece_160 rfl (lv_at hl 2 rfl) ?_
                        refine lv_bipush (v := nI 46) hx hb dX0_cutPiece_161 (by decide) ?_
                        refine lv_icmp_ne (tgt := 185) hx hb dX0_cutPiece_163 (by decide) (fun c_298 => ?_) (fun c_298 => ?_)
                        · have c_298 := mt (bI_eqN (by omega)).mpr c_298
                          refine lv_aload_n hx hb dX0_cutPiece_185 rfl (lv_at hl 3 rfl) ?_
                          refine lv_iload_n hx hb dX0_cutPiece_186 rfl (lv_at hl 2 rfl) ?_
                          refine lv_iload_n hx hb dX0_cutPiece_187 rfl (lv_at hl 0 rfl) ?_
                          refine lv_iload_n hx hb dX0_cutPiece_188 rfl (lv_at hl 1 rfl) ?_
                          have hwH := hw
                          refine lm_calli (va_runV (As := [.int (bI (gb T (Z 2) (Z 3))), .int (bI (gb T (Z 2) (lf T (Z 2) (Z 3 + 1)))), .int (nI (lf T (Z 2) (Z 3 + 1)))]) (rest := []) ⟨hx, hb, hml, hown, hts⟩ (c_cutSign l dC dI cA a0 a1 a2 dK dV A0 s.heap.size Z T K (gb T (Z 2) (Z 3)) (gb T (Z 2) (lf T (Z 2) (Z 3 + 1))) (lf T (Z 2) (Z 3 + 1)) (show Z 2 ≤ 32768 by omega) (show Z 4 < 65536 by omega) (show Z 10 < 2 ^ 29 by omega) (show Z 11 ≤ 1 by omega) (show Z 3 ≤ Z 2 by omega) (show lf T (Z 2) (Z 3 + 1) ≤ Z 2 by omega) (show gb T (Z 2) (lf T (Z 2) (Z 3 + 1)) = gb T (Z 2) (lf T (Z 2) (Z 3 + 1)) by omega)) (cwV 3 hts (gV (fun _ h => h) ml_X0_148 im_X0_cutSign se_X0_cutSign ini_X0 co_X0_cutSign) rfl rfl rfl pd_X0_cutSign ⟨Nat.le_of_ble_eq_true rfl, Nat.le_of_ble_eq_true rfl⟩) (lm_preW hK hP hD hwH) rfl rfl hl.1 rfl (lv_room (Nat.le_of_ble_eq_true rfl)) dX0_cutPiece_189 ⟨Nat.zero_le _, Nat.zero_le _⟩) hD hS hA (fun r_301 u_300 H locs q_299 hP hD hS => ?_)
                          obtain ⟨rfl, rfl⟩ := q_299
                          have hP : va_P (dC, dI) vwCl (lmW cA a0 a1 a2 ((csZ T Z K (gb T (Z 2) (Z 3)) (gb T (Z 2) (lf T (Z 2) (Z 3 + 1))) (lf T (Z 2) (Z 3 + 1))).1, T, (csZ T Z K (gb T (Z 2) (Z 3)) (gb T (Z 2) (lf T (Z 2) (Z 3 + 1))) (lf T (Z 2) (Z 3 + 1))).2.1)) H := hP
                          have hD : va_D A (lmW cA a0 a1 a2 ((csZ T Z K (gb T (Z 2) (Z 3)) (gb T (Z 2) (lf T (Z 2) (Z 3 + 1))) (lf T (Z 2) (Z 3 + 1))).1, T, (csZ T Z K (gb T (Z 2) (Z 3)) (gb T (Z 2) (lf T (Z 2) (Z 3 + 1))) (lf T (Z 2) (Z 3 + 1))).2.1)) := hD
                          have hP : va_P (dC, dI) vwCl (lmW cA a0 a1 a2 ((cpZ T Z K).1, T, (cpZ T Z K).2.1)) H := by rw [cpZ, cpR, if_neg (by omega), if_neg (by rw [c_12]; decide), if_neg (by omega), if_neg (by omega), if_neg (by rw [c_251]; decide), if_neg (fun z => absurd z.2 (by rw [c_286]; decide)), if_neg (by rw [c_289]; decide), if_neg (fun z => by rcases z with z | z; exact absurd z (by rw [c_292]; decide); have := z.1; omega)]; exact hP
                          have hD : va_D A (lmW cA a0 a1 a2 ((cpZ T Z K).1, T, (cpZ T Z K).2.1)) := by rw [cpZ, cpR, if_neg (by omega), if_neg (by rw [c_12]; decide), if_neg (by omega), if_neg (by omega), if_neg (by rw [c_251]; decide), if_neg (fun z => absurd z.2 (by rw [c_286]; decide)), if_neg (by rw [c_289]; decide), if_neg (fun z => by rcases z with z | z; exact absurd z (by rw [c_292]; decide); have := z.1; omega)]; exact hD
                          exact W.iret (v := nI ((csZ T Z K (gb T (Z 2) (Z 3)) (gb T (Z 2) (lf T (Z 2) (Z 3 + 1))) (lf T (Z 2) (Z 3 + 1))).2.2)) hx hb hr (fun t ht hW => ⟨⟨_, ((cpZ T Z K).1, T, (cpZ T Z K).2.1), rfl, ⟨by rw [cpZ, cpR, if_neg (by omega), if_neg (by rw [c_12]; decide), if_neg (by omega), if_neg (by omega), if_neg (by rw [c_251]; decide), if_neg (fun z => absurd z.2 (by rw [c_286]; decide)), if_neg (by rw [c_289]; decide), if_neg (fun z => by rcases z with z | z; exact absurd z (by rw [c_292]; decide); have := z.1; omega)], rfl⟩, by rw [ht]; exact hP, va_K.moved hW.alike hK, hD⟩, hS.F ht⟩) hS.2.2 dX0_cutPiece_192
                        · have c_298 := (bI_eqN (by omega)).mp c_298
                          refine lv_iload_n hx hb dX0_cutPiece_166 rfl (lv_at hl 0 rfl) ?_
                          refine vp_callSi (va_Run.run (va_runS (As := [.int (bI (gb T (Z 2) (lf T (Z 2) (Z 3 + 1))))]) (rest := []) ⟨hx, hb, hml, hown, hts⟩ (c_isDigit l (gb T (Z 2) (lf T (Z 2) (Z 3 + 1)))) (cwS 1 hts (gS (fun _ h => h) ml_X0_142 sm_X0_isDigit ini_X0 co_X0_isDigit) rfl rfl rfl pd_X0_isDigit ⟨Nat.le_of_ble_eq_true rfl, Nat.le_of_ble_eq_true rfl⟩) st_pre rfl rfl hl.1 rfl (lv_room (Nat.le_of_ble_eq_true rfl)) dX0_cutPiece_167 ⟨Nat.zero_le _, Nat.zero_le _⟩)) (fun r_302 (e_303 : r_302 = b2i (isD (gb T (Z 2) (lf T (Z 2) (Z 3 + 1))))) => ?_)
                          subst e_303
                          refine lv_if_eq (tgt := 185) hx hb dX0_cutPiece_170 (by decide) (fun c_304 => ?_) (fun c_304 => ?_)
                          · have c_304 := (b2i_z (isD (gb T (Z 2) (lf T (Z 2) (Z 3 + 1))))).mp c_304
                            refine lv_aload_n hx hb dX0_cutPiece_185 rfl (lv_at hl 3 rfl) ?_
                            refine lv_iload_n hx hb dX0_cutPiece_186 rfl (lv_at hl 2 rfl) ?_
                            refine lv_iload_n hx hb dX0_cutPiece_187 rfl (lv_at hl 0 rfl) ?_
                            refine lv_iload_n hx hb dX0_cutPiece_188 rfl (lv_at hl 1 rfl) ?_
                            have hwH := hw
                            refine lm_calli (va_runV (As := [.int (bI (gb T (Z 2) (Z 3))), .int (bI (gb T (Z 2) (lf T (Z 2) (Z 3 + 1)))), .int (nI (lf T (Z 2) (Z 3 + 1)))]) (rest := []) ⟨hx, hb, hml, hown, hts⟩ (c_cutSign l dC dI cA a0 a1 a2 dK dV A0 s.heap.size Z T K (gb T (Z 2) (Z 3)) (gb T (Z 2) (lf T (Z 2) (Z 3 + 1))) (lf T (Z 2) (Z 3 + 1)) (show Z 2 ≤ 32768 by omega) (show Z 4 < 65536 by omega) (show Z 10 < 2 ^ 29 by omega) (show Z 11 ≤ 1 by omega) (show Z 3 ≤ Z 2 by omega) (show lf T (Z 2) (Z 3 + 1) ≤ Z 2 by omega) (show gb T (Z 2) (lf T (Z 2) (Z 3 + 1)) = gb T (Z 2) (lf T (Z 2) (Z 3 + 1)) by omega)) (cwV 3 hts (gV (fun _ h => h) ml_X0_148 im_X0_cutSign se_X0_cutSign ini_X0 co_X0_cutSign) rfl rfl rfl pd_X0_cutSign ⟨Nat.le_of_ble_eq_true rfl, Nat.le_of_ble_eq_true rfl⟩) (lm_preW hK hP hD hwH) rfl rfl hl.1 rfl (lv_room (Nat.le_of_ble_eq_true rfl)) dX0_cutPiece_189 ⟨Nat.zero_le _, Nat.zero_le _⟩) hD hS hA (fun r_307 u_306 H locs q_305 hP hD hS => ?_)
                            obtain ⟨rfl, rfl⟩ := q_305
                            have hP : va_P (dC, dI) vwCl (lmW cA a0 a1 a2 ((csZ T Z K (gb T (Z 2) (Z 3)) (gb T (Z 2) (lf T (Z 2) (Z 3 + 1))) (lf T (Z 2) (Z 3 + 1))).1, T, (csZ T Z K (gb T (Z 2) (Z 3)) (gb T (Z 2) (lf T (Z 2) (Z 3 + 1))) (lf T (Z 2) (Z 3 + 1))).2.1)) H := hP
                            have hD : va_D A (lmW cA a0 a1 a2 ((csZ T Z K (gb T (Z 2) (Z 3)) (gb T (Z 2) (lf T (Z 2) (Z 3 + 1))) (lf T (Z 2) (Z 3 + 1))).1, T, (csZ T Z K (gb T (Z 2) (Z 3)) (gb T (Z 2) (lf T (Z 2) (Z 3 + 1))) (lf T (Z 2) (Z 3 + 1))).2.1)) := hD
                            have hP : va_P (dC, dI) vwCl (lmW cA a0 a1 a2 ((cpZ T Z K).1, T, (cpZ T Z K).2.1)) H := by rw [cpZ, cpR, if_neg (by omega), if_neg (by rw [c_12]; decide), if_neg (by omega), if_neg (by omega), if_neg (by rw [c_251]; decide), if_neg (fun z => absurd z.2 (by rw [c_286]; decide)), if_neg (by rw [c_289]; decide), if_neg (fun z => by rcases z with z | z; exact absurd z (by rw [c_292]; decide); exact absurd z.2 (by rw [c_304]; decide))]; exact hP
                            have hD : va_D A (lmW cA a0 a1 a2 ((cpZ T Z K).1, T, (cpZ T Z K).2.1)) := by rw [cpZ, cpR, if_neg (by omega), if_neg (by rw [c_12]; decide), if_neg (by omega), if_neg (by omega), if_neg (by rw [c_251]; decide), if_neg (fun z => absurd z.2 (by rw [c_286]; decide)), if_neg (by rw [c_289]; decide), if_neg (fun z => by rcases z with z | z; exact absurd z (by rw [c_292]; decide); exact absurd z.2 (by rw [c_304]; decide))]; exact hD
                            exact W.iret (v := nI ((csZ T Z K (gb T (Z 2) (Z 3)) (gb T (Z 2) (lf T (Z 2) (Z 3 + 1))) (lf T (Z 2) (Z 3 + 1))).2.2)) hx hb hr (fun t ht hW => ⟨⟨_, ((cpZ T Z K).1, T, (cpZ T Z K).2.1), rfl, ⟨by rw [cpZ, cpR, if_neg (by omega), if_neg (by rw [c_12]; decide), if_neg (by omega), if_neg (by omega), if_neg (by rw [c_251]; decide), if_neg (fun z => absurd z.2 (by rw [c_286]; decide)), if_neg (by rw [c_289]; decide), if_neg (fun z => by rcases z with z | z; exact absurd z (by rw [c_292]; decide); exact absurd z.2 (by rw [c_304]; decide))], rfl⟩, by rw [ht]; exact hP, va_K.moved hW.alike hK, hD⟩, hS.F ht⟩) hS.2.2 dX0_cutPiece_192
                          · have c_304 := mt (b2i_z (isD (gb T (Z 2) (lf T (Z 2) (Z 3 + 1))))).mpr c_304
                            refine lv_aload_n hx hb dX0_cutPiece_173 rfl (lv_at hl 3 rfl) ?_
                            refine lv_iconst (v := nI 2) hx hb dX0_cutPiece_174 (by decide) ?_
                            refine lv_aload_n hx hb dX0_cutPiece_175 rfl (lv_at hl 3 rfl) ?_
                            refine lv_iload_n hx hb dX0_cutPiece_176 rfl (lv_at hl 1 rfl) ?_
                            refine lv_iload_n hx hb dX0_cutPiece_177 rfl (lv_at hl 2 rfl) ?_
                            refine vp_callSi (va_Run.run (va_runV (As := [.int (nI (lf T (Z 2) (Z 3 + 1))), .int (bI (gb T (Z 2) (Z 3)))]) (rest := [.int (nI 2), .ref a0]) ⟨hx, hb, hml, hown, hts⟩ (c_numberEnd l dC dI cA a0 a1 a2 Z T K (lf T (Z 2) (Z 3 + 1)) (gb T (Z 2) (Z 3)) (show Z 2 ≤ 32768 by omega) (show lf T (Z 2) (Z 3 + 1) < 2 ^ 30 - 1 by omega)) (cwV 2 hts (gV (fun _ h => h) ml_X0_145 im_X0_numberEnd se_X0_numberEnd ini_X0 co_X0_numberEnd) rfl rfl rfl pd_X0_numberEnd ⟨Nat.le_of_ble_eq_true rfl, Nat.le_of_ble_eq_true rfl⟩) (lm_preR hK hP) rfl rfl hl.1 rfl (lv_room (Nat.le_of_ble_eq_true rfl)) dX0_cutPiece_178 ⟨Nat.zero_le _, Nat.zero_le _⟩)) (fun r_308 (e_309 : r_308 = nI (nuE T (Z 2) (lf T (Z 2) (Z 3 + 1)) (gb T (Z 2) (Z 3)))) => ?_)
                            subst e_309
                            have := nuE_b T (Z 2) (lf T (Z 2) (Z 3 + 1)) (gb T (Z 2) (Z 3))
                            refine lm_calli (va_runV (As := [.int (nI 2), .int (nI (nuE T (Z 2) (lf T (Z 2) (Z 3 + 1)) (gb T (Z 2) (Z 3))))]) (rest := []) ⟨hx, hb, hml, hown, hts⟩ (c_addToken l dC dI cA a0 a1 a2 s.heap.size Z T K 2 (nuE T (Z 2) (lf T (Z 2) (Z 3 + 1)) (gb T (Z 2) (Z 3))) (show Z 2 ≤ 32768 by omega) (show nuE T (Z 2) (lf T (Z 2) (Z 3 + 1)) (gb T (Z 2) (Z 3)) ≤ Z 2 by omega) (show Z 3 ≤ Z 2 by omega) (show Z 4 < 65536 by omega) (show Z 10 < 2 ^ 29 by omega) (show Z 11 ≤ 1 by omega) (show 2 < 16 by omega)) (cwV 2 hts (gV (fun _ h => h) ml_X0_139 im_X0_addToken se_X0_addToken ini_X0 co_X0_addToken) rfl rfl rfl pd_X0_addToken ⟨Nat.le_of_ble_eq_true rfl, Nat.le_of_ble_eq_true rfl⟩) (lm_preS hK hP hD) rfl rfl hl.1 rfl (lv_room (Nat.le_of_ble_eq_true rfl)) dX0_cutPiece_181 ⟨Nat.zero_le _, Nat.zero_le _⟩) hD hS hA (fun r_312 u_311 H locs q_310 hP hD hS => ?_)
                            obtain ⟨rfl, rfl⟩ := q_310
                            have hP : va_P (dC, dI) vwCl (lmW cA a0 a1 a2 ((adZ T Z (nuE T (Z 2) (lf T (Z 2) (Z 3 + 1)) (gb T (Z 2) (Z 3)))), T, (adK T Z K 2 (nuE T (Z 2) (lf T (Z 2) (Z 3 + 1)) (gb T (Z 2) (Z 3)))))) H := hP
                            have hD : va_D A (lmW cA a0 a1 a2 ((adZ T Z (nuE T (Z 2) (lf T (Z 2) (Z 3 + 1)) (gb T (Z 2) (Z 3)))), T, (adK T Z K 2 (nuE T (Z 2) (lf T (Z 2) (Z 3 + 1)) (gb T (Z 2) (Z 3)))))) := hD
                            have hP : va_P (dC, dI) vwCl (lmW cA a0 a1 a2 ((cpZ T Z K).1, T, (cpZ T Z K).2.1)) H := by rw [cpZ, cpR, if_neg (by omega), if_neg (by rw [c_12]; decide), if_neg (by omega), if_neg (by omega), if_neg (by rw [c_251]; decide), if_neg (fun z => absurd z.2 (by rw [c_286]; decide)), if_neg (by rw [c_289]; decide), if_pos (Or.inr ⟨by omega, by simpa using c_304⟩)]; exact hP
                            have hD : va_D A (lmW cA a0 a1 a2 ((cpZ T Z K).1, T, (cpZ T Z K).2.1)) := by rw [cpZ, cpR, if_neg (by omega), if_neg (by rw [c_12]; decide), if_neg (by omega), if_neg (by omega), if_neg (by rw [c_251]; decide), if_neg (fun z => absurd z.2 (by rw [c_286]; decide)), if_neg (by rw [c_289]; decide), if_pos (Or.inr ⟨by omega, by simpa using c_304⟩)]; exact hD
                            exact W.iret (v := nI 0) hx hb hr (fun t ht hW => ⟨⟨_, ((cpZ T Z K).1, T, (cpZ T Z K).2.1), rfl, ⟨by rw [cpZ, cpR, if_neg (by omega), if_neg (by rw [c_12]; decide), if_neg (by omega), if_neg (by omega), if_neg (by rw [c_251]; decide), if_neg (fun z => absurd z.2 (by rw [c_286]; decide)), if_neg (by rw [c_289]; decide), if_pos (Or.inr ⟨by omega, by simpa using c_304⟩)], rfl⟩, by rw [ht]; exact hP, va_K.moved hW.alike hK, hD⟩, hS.F ht⟩) hS.2.2 dX0_cutPiece_184
                    · have c_289 := mt (b2i_z (isL (gb T (Z 2) (Z 3)))).mpr c_289
                      refine lv_aload_n hx hb dX0_cutPiece_142 rfl (lv_at hl 3 rfl) ?_
                      refine lv_iconst (v := nI 1) hx hb dX0_cutPiece_143 (by decide) ?_
                      refine lv_aload_n hx hb dX0_cutPiece_144 rfl (lv_at hl 3 rfl) ?_
                      refine lv_iload_n hx hb dX0_cutPiece_145 rfl (lv_at hl 1 rfl) ?_
                      refine vp_callSi (va_Run.run (va_runV (As := [.int (nI (lf T (Z 2) (Z 3 + 1)))]) (rest := [.int (nI 1), .ref a0]) ⟨hx, hb, hml, hown, hts⟩ (c_nameEnd l dC dI cA a0 a1 a2 Z T K (lf T (Z 2) (Z 3 + 1)) (show Z 2 ≤ 32768 by omega) (show lf T (Z 2) (Z 3 + 1) < 2 ^ 30 - 1 by omega)) (cwV 1 hts (gV (fun _ h => h) ml_X0_136 im_X0_nameEnd se_X0_nameEnd ini_X0 co_X0_nameEnd) rfl rfl rfl pd_X0_nameEnd ⟨Nat.le_of_ble_eq_true rfl, Nat.le_of_ble_eq_true rfl⟩) (lm_preR hK hP) rfl rfl hl.1 rfl (lv_room (Nat.le_of_ble_eq_true rfl)) dX0_cutPiece_146 ⟨Nat.zero_le _, Nat.zero_le _⟩)) (fun r_313 (e_314 : r_313 = nI (nmE T (Z 2) (lf T (Z 2) (Z 3 + 1)))) => ?_)
                      subst e_314
                      have := nmE_b T (Z 2) (lf T (Z 2) (Z 3 + 1))
                      refine lm_calli (va_runV (As := [.int (nI 1), .int (nI (nmE T (Z 2) (lf T (Z 2) (Z 3 + 1))))]) (rest := []) ⟨hx, hb, hml, hown, hts⟩ (c_addToken l dC dI cA a0 a1 a2 s.heap.size Z T K 1 (nmE T (Z 2) (lf T (Z 2) (Z 3 + 1))) (show Z 2 ≤ 32768 by omega) (show nmE T (Z 2) (lf T (Z 2) (Z 3 + 1)) ≤ Z 2 by omega) (show Z 3 ≤ Z 2 by omega) (show Z 4 < 65536 by omega) (show Z 10 < 2 ^ 29 by omega) (show Z 11 ≤ 1 by omega) (show 1 < 16 by omega)) (cwV 2 hts (gV (fun _ h => h) ml_X0_139 im_X0_addToken se_X0_addToken ini_X0 co_X0_addToken) rfl rfl rfl pd_X0_addToken ⟨Nat.le_of_ble_eq_true rfl, Nat.le_of_ble_eq_true rfl⟩) (lm_preS hK hP hD) rfl rfl hl.1 rfl (lv_room (Nat.le_of_ble_eq_true rfl)) dX0_cutPiece_149 ⟨Nat.zero_le _, Nat.zero_le _⟩) hD hS hA (fun r_317 u_316 H locs q_315 hP hD hS => ?_)
                      obtain ⟨rfl, rfl⟩ := q_315
                      have hP : va_P (dC, dI) vwCl (lmW cA a0 a1 a2 ((adZ T Z (nmE T (Z 2) (lf T (Z 2) (Z 3 + 1)))), T, (adK T Z K 1 (nmE T (Z 2) (lf T (Z 2) (Z 3 + 1)))))) H := hP
                      have hD : va_D A (lmW cA a0 a1 a2 ((adZ T Z (nmE T (Z 2) (lf T (Z 2) (Z 3 + 1)))), T, (adK T Z K 1 (nmE T (Z 2) (lf T (Z 2) (Z 3 + 1)))))) := hD
                      have hP : va_P (dC, dI) vwCl (lmW cA a0 a1 a2 ((cpZ T Z K).1, T, (cpZ T Z K).2.1)) H := by rw [cpZ, cpR, if_neg (by omega), if_neg (by rw [c_12]; decide), if_neg (by omega), if_neg (by omega), if_neg (by rw [c_251]; decide), if_neg (fun z => absurd z.2 (by rw [c_286]; decide)), if_pos (by simpa using c_289)]; exact hP
                      have hD : va_D A (lmW cA a0 a1 a2 ((cpZ T Z K).1, T, (cpZ T Z K).2.1)) := by rw [cpZ, cpR, if_neg (by omega), if_neg (by rw [c_12]; decide), if_neg (by omega), if_neg (by omega), if_neg (by rw [c_251]; decide), if_neg (fun z => absurd z.2 (by rw [c_286]; decide)), if_pos (by simpa using c_289)]; exact hD
                      exact W.iret (v := nI 0) hx hb hr (fun t ht hW => ⟨⟨_, ((cpZ T Z K).1, T, (cpZ T Z K).2.1), rfl, ⟨by rw [cpZ, cpR, if_neg (by omega), if_neg (by rw [c_12]; decide), if_neg (by omega), if_neg (by omega), if_neg (by rw [c_251]; decide), if_neg (fun z => absurd z.2 (by rw [c_286]; decide)), if_pos (by simpa using c_289)], rfl⟩, by rw [ht]; exact hP, va_K.moved hW.alike hK, hD⟩, hS.F ht⟩) hS.2.2 dX0_cutPiece_152
                  · have c_286 := mt (b2i_z (isQ (gb T (Z 2) (lf T (Z 2) (Z 3 + 1))))).mpr c_286
                    have := isQ_lt (show isQ (gb T (Z 2) (lf T (Z 2) (Z 3 + 1))) = true by simpa using c_286)
                    refine lv_aload_n hx hb dX0_cutPiece_128 rfl (lv_at hl 3 rfl) ?_
                    refine lv_iload_n hx hb dX0_cutPiece_129 rfl (lv_at hl 1 rfl) ?_
                    refine lv_iload_n hx hb dX0_cutPiece_130 rfl (lv_at hl 0 rfl) ?_
                    refine lm_calli (va_runV (As := [.int (nI (lf T (Z 2) (Z 3 + 1))), .int (bI (gb T (Z 2) (lf T (Z 2) (Z 3 + 1))))]) (rest := []) ⟨hx, hb, hml, hown, hts⟩ (c_cutWide l dC dI cA a0 a1 a2 s.heap.size Z T K (lf T (Z 2) (Z 3 + 1)) (gb T (Z 2) (lf T (Z 2) (Z 3 + 1))) (show Z 2 ≤ 32768 by omega) (show gb T (Z 2) (lf T (Z 2) (Z 3 + 1)) < 256 by omega) (show Z 4 < 65536 by omega) (show Z 6 < 2 ^ 29 by omega) (show Z 10 < 2 ^ 29 by omega) (show Z 11 ≤ 1 by omega) (show Z 14 < 2 ^ 29 by omega) (show Z 15 < 2 ^ 29 by omega) (show Z 3 ≤ Z 2 by omega) (show lf T (Z 2) (Z 3 + 1) < Z 2 by omega)) (cwV 2 hts (gV (fun _ h => h) ml_X0_130 im_X0_cutWide se_X0_cutWide ini_X0 co_X0_cutWide) rfl rfl rfl pd_X0_cutWide ⟨Nat.le_of_ble_eq_true rfl, Nat.le_of_ble_eq_true rfl⟩) (lm_preS hK hP hD) rfl rfl hl.1 rfl (lv_room (Nat.le_of_ble_eq_true rfl)) dX0_cutPiece_131 ⟨Nat.zero_le _, Nat.zero_le _⟩) hD hS hA (fun r_320 u_319 H locs q_318 hP hD hS => ?_)
                    obtain ⟨rfl, rfl⟩ := q_318
                    have hP : va_P (dC, dI) vwCl (lmW cA a0 a1 a2 ((cwZ T Z K (lf T (Z 2) (Z 3 + 1)) (gb T (Z 2) (lf T (Z 2) (Z 3 + 1)))).1, T, (cwZ T Z K (lf T (Z 2) (Z 3 + 1)) (gb T (Z 2) (lf T (Z 2) (Z 3 + 1)))).2.1)) H := hP
                    have hD : va_D A (lmW cA a0 a1 a2 ((cwZ T Z K (lf T (Z 2) (Z 3 + 1)) (gb T (Z 2) (lf T (Z 2) (Z 3 + 1)))).1, T, (cwZ T Z K (lf T (Z 2) (Z 3 + 1)) (gb T (Z 2) (lf T (Z 2) (Z 3 + 1)))).2.1)) := hD
                    have hP : va_P (dC, dI) vwCl (lmW cA a0 a1 a2 ((cpZ T Z K).1, T, (cpZ T Z K).2.1)) H := by rw [cpZ, cpR, if_neg (by omega), if_neg (by rw [c_12]; decide), if_neg (by omega), if_neg (by omega), if_neg (by rw [c_251]; decide), if_pos ⟨by omega, by simpa using c_286⟩]; exact hP
                    have hD : va_D A (lmW cA a0 a1 a2 ((cpZ T Z K).1, T, (cpZ T Z K).2.1)) := by rw [cpZ, cpR, if_neg (by omega), if_neg (by rw [c_12]; decide), if_neg (by omega), if_neg (by omega), if_neg (by rw [c_251]; decide), if_pos ⟨by omega, by simpa using c_286⟩]; exact hD
                    exact W.iret (v := nI ((cwZ T Z K (lf T (Z 2) (Z 3 + 1)) (gb T (Z 2) (lf T (Z 2) (Z 3 + 1)))).2.2)) hx hb hr (fun t ht hW => ⟨⟨_, ((cpZ T Z K).1, T, (cpZ T Z K).2.1), rfl, ⟨by rw [cpZ, cpR, if_neg (by omega), if_neg (by rw [c_12]; decide), if_neg (by omega), if_neg (by omega), if_neg (by rw [c_251]; decide), if_pos ⟨by omega, by simpa using c_286⟩], rfl⟩, by rw [ht]; exact hP, va_K.moved hW.alike hK, hD⟩, hS.F ht⟩) hS.2.2 dX0_cutPiece_134
              · have c_251 := mt (b2i_z (isQ (gb T (Z 2) (Z 3)))).mpr c_251
                refine lv_aload_n hx hb dX0_cutPiece_109 rfl (lv_at hl 3 rfl) ?_
                refine lv_iload_n hx hb dX0_cutPiece_110 rfl (lv_at hl 2 rfl) ?_
                refine lm_calli (va_runV (As := [.int (bI (gb T (Z 2) (Z 3)))]) (rest := []) ⟨hx, hb, hml, hown, hts⟩ (c_cutQuote l dC dI cA a0 a1 a2 s.heap.size Z T K (gb T (Z 2) (Z 3)) (show Z 2 ≤ 32768 by omega) (show gb T (Z 2) (Z 3) < 256 by omega) (show Z 4 < 65536 by omega) (show Z 6 < 2 ^ 29 by omega) (show Z 10 < 2 ^ 29 by omega) (show Z 11 ≤ 1 by omega) (show Z 14 < 2 ^ 29 by omega) (show Z 15 < 2 ^ 29 by omega) (show Z 3 < Z 2 by omega)) (cwV 1 hts (gV (fun _ h => h) ml_X0_127 im_X0_cutQuote se_X0_cutQuote ini_X0 co_X0_cutQuote) rfl rfl rfl pd_X0_cutQuote ⟨Nat.le_of_ble_eq_true rfl, Nat.le_of_ble_eq_true rfl⟩) (lm_preS hK hP hD) rfl rfl hl.1 rfl (lv_room (Nat.le_of_ble_eq_true rfl)) dX0_cutPiece_111 ⟨Nat.zero_le _, Nat.zero_le _⟩) hD hS hA (fun r_323 u_322 H locs q_321 hP hD hS => ?_)
                obtain ⟨rfl, rfl⟩ := q_321
                have hP : va_P (dC, dI) vwCl (lmW cA a0 a1 a2 ((cqZ T Z K (gb T (Z 2) (Z 3))).1, T, (cqZ T Z K (gb T (Z 2) (Z 3))).2.1)) H := hP
                have hD : va_D A (lmW cA a0 a1 a2 ((cqZ T Z K (gb T (Z 2) (Z 3))).1, T, (cqZ T Z K (gb T (Z 2) (Z 3))).2.1)) := hD
                have hP : va_P (dC, dI) vwCl (lmW cA a0 a1 a2 ((cpZ T Z K).1, T, (cpZ T Z K).2.1)) H := by rw [cpZ, cpR, if_neg (by omega), if_neg (by rw [c_12]; decide), if_neg (by omega), if_neg (by omega), if_pos (by simpa using c_251)]; exact hP
                have hD : va_D A (lmW cA a0 a1 a2 ((cpZ T Z K).1, T, (cpZ T Z K).2.1)) := by rw [cpZ, cpR, if_neg (by omega), if_neg (by rw [c_12]; decide), if_neg (by omega), if_neg (by omega), if_pos (by simpa using c_251)]; exact hD
                exact W.iret (v := nI ((cqZ T Z K (gb T (Z 2) (Z 3))).2.2)) hx hb hr (fun t ht hW => ⟨⟨_, ((cpZ T Z K).1, T, (cpZ T Z K).2.1), rfl, ⟨by rw [cpZ, cpR, if_neg (by omega), if_neg (by rw [c_12]; decide), if_neg (by omega), if_neg (by omega), if_pos (by simpa using c_251)], rfl⟩, by rw [ht]; exact hP, va_K.moved hW.alike hK, hD⟩, hS.F ht⟩) hS.2.2 dX0_cutPiece_114
            · have c_248 := (bI_eqN (by omega)).mp c_248
              refine lv_aload_n hx hb dX0_cutPiece_92 rfl (lv_at hl 3 rfl) ?_
              refine lv_aload_n hx hb dX0_cutPiece_93 rfl (lv_at hl 3 rfl) ?_
              refine lv_iload_n hx hb dX0_cutPiece_94 rfl (lv_at hl 1 rfl) ?_
              refine vp_callSi (va_Run.run (va_runV (As := [.int (nI (lf T (Z 2) (Z 3 + 1)))]) (rest := [.ref a0]) ⟨hx, hb, hml, hown, hts⟩ (c_lineEnd l dC dI cA a0 a1 a2 Z T K (lf T (Z 2) (Z 3 + 1)) (show Z 2 ≤ 32768 by omega) (show lf T (Z 2) (Z 3 + 1) < 2 ^ 30 - 1 by omega)) (cwV 1 hts (gV (fun _ h => h) ml_X0_121 im_X0_lineEnd se_X0_lineEnd ini_X0 co_X0_lineEnd) rfl rfl rfl pd_X0_lineEnd ⟨Nat.le_of_ble_eq_true rfl, Nat.le_of_ble_eq_true rfl⟩) (lm_preR hK hP) rfl rfl hl.1 rfl (lv_room (Nat.le_of_ble_eq_true rfl)) dX0_cutPiece_95 ⟨Nat.zero_le _, Nat.zero_le _⟩)) (fun r_324 (e_325 : r_324 = nI (lnE T (Z 2) (lf T (Z 2) (Z 3 + 1)))) => ?_)
              subst e_325
              have := lnE_b T (Z 2) (lf T (Z 2) (Z 3 + 1))
              refine lm_calli (va_runV (As := [.int (nI (lnE T (Z 2) (lf T (Z 2) (Z 3 + 1))))]) (rest := []) ⟨hx, hb, hml, hown, hts⟩ (c_passBlank l dC dI cA a0 a1 a2 s.heap.size Z T K (lnE T (Z 2) (lf T (Z 2) (Z 3 + 1))) (show Z 2 ≤ 32768 by omega) (show lnE T (Z 2) (lf T (Z 2) (Z 3 + 1)) < 2 ^ 29 by omega) (show Z 3 < 2 ^ 29 by omega)) (cwV 1 hts (gV (fun _ h => h) ml_X0_112 im_X0_passBlank se_X0_passBlank ini_X0 co_X0_passBlank) rfl rfl rfl pd_X0_passBlank ⟨Nat.le_of_ble_eq_true rfl, Nat.le_of_ble_eq_true rfl⟩) (lm_preS hK hP hD) rfl rfl hl.1 rfl (lv_room (Nat.le_of_ble_eq_true rfl)) dX0_cutPiece_98 ⟨Nat.zero_le _, Nat.zero_le _⟩) hD hS hA (fun r_328 u_327 H locs q_326 hP hD hS => ?_)
              obtain ⟨rfl, rfl⟩ := q_326
              have hP : va_P (dC, dI) vwCl (lmW cA a0 a1 a2 ((pbZ T Z (lnE T (Z 2) (lf T (Z 2) (Z 3 + 1)))), T, K)) H := hP
              have hD : va_D A (lmW cA a0 a1 a2 ((pbZ T Z (lnE T (Z 2) (lf T (Z 2) (Z 3 + 1)))), T, K)) := hD
              have hP : va_P (dC, dI) vwCl (lmW cA a0 a1 a2 ((cpZ T Z K).1, T, (cpZ T Z K).2.1)) H := by rw [cpZ, cpR, if_neg (by omega), if_neg (by rw [c_12]; decide), if_neg (by omega), if_pos (by omega)]; exact hP
              have hD : va_D A (lmW cA a0 a1 a2 ((cpZ T Z K).1, T, (cpZ T Z K).2.1)) := by rw [cpZ, cpR, if_neg (by omega), if_neg (by rw [c_12]; decide), if_neg (by omega), if_pos (by omega)]; exact hD
              exact W.iret (v := nI 0) hx hb hr (fun t ht hW => ⟨⟨_, ((cpZ T Z K).1, T, (cpZ T Z K).2.1), rfl, ⟨by rw [cpZ, cpR, if_neg (by omega), if_neg (by rw [c_12]; decide), if_neg (by omega), if_pos (by omega)], rfl⟩, by rw [ht]; exact hP, va_K.moved hW.alike hK, hD⟩, hS.F ht⟩) hS.2.2 dX0_cutPiece_101
        · have c_171 := (bI_eqN (by omega)).mp c_171
          refine lv_aload_n hx hb dX0_cutPiece_68 rfl (lv_at hl 3 rfl) ?_
          refine lv_aload_n hx hb dX0_cutPiece_69 rfl (lv_at hl 3 rfl) ?_
          refine lv_iload_n hx hb dX0_cutPiece_70 rfl (lv_at hl 1 rfl) ?_
          refine lv_iconst (v := nI 1) hx hb dX0_cutPiece_71 (by decide) ?_
          refine lv_iadd hx hb dX0_cutPiece_72 ?_
          refine lv_topi (fun x_329 e_330 => ?_)
          obtain rfl : x_329 = nI (lf T (Z 2) (Z 3 + 1) + 1) := e_330.trans (nI_add (lf T (Z 2) (Z 3 + 1)) 1)
          refine vp_callSi (va_Run.run (va_runV (As := [.int (nI (lf T (Z 2) (Z 3 + 1) + 1))]) (rest := [.ref a0]) ⟨hx, hb, hml, hown, hts⟩ (c_leftFrom l dC dI cA a0 a1 a2 Z T K (lf T (Z 2) (Z 3 + 1) + 1) (show Z 2 ≤ 32768 by omega) (show lf T (Z 2) (Z 3 + 1) + 1 < 2 ^ 30 by omega)) (cwV 1 hts (gV (fun _ h => h) ml_X0_42 im_X0_leftFrom se_X0_leftFrom ini_X0 co_X0_leftFrom) rfl rfl rfl pd_X0_leftFrom ⟨Nat.le_of_ble_eq_true rfl, Nat.le_of_ble_eq_true rfl⟩) (lm_preR hK hP) rfl rfl hl.1 rfl (lv_room (Nat.le_of_ble_eq_true rfl)) dX0_cutPiece_73 ⟨Nat.zero_le _, Nat.zero_le _⟩)) (fun r_331 (e_332 : r_331 = nI (lf T (Z 2) (lf T (Z 2) (Z 3 + 1) + 1))) => ?_)
          subst e_332
          have := lf_b T (Z 2) (lf T (Z 2) (Z 3 + 1) + 1)
          refine lm_calli (va_runV (As := [.int (nI (lf T (Z 2) (lf T (Z 2) (Z 3 + 1) + 1)))]) (rest := []) ⟨hx, hb, hml, hown, hts⟩ (c_passComment l dC dI cA a0 a1 a2 s.heap.size Z T K (lf T (Z 2) (lf T (Z 2) (Z 3 + 1) + 1)) (show Z 2 ≤ 32768 by omega) (show lf T (Z 2) (lf T (Z 2) (Z 3 + 1) + 1) < 2 ^ 29 by omega) (show Z 3 < 2 ^ 29 by omega)) (cwV 1 hts (gV (fun _ h => h) ml_X0_118 im_X0_passComment se_X0_passComment ini_X0 co_X0_passComment) rfl rfl rfl pd_X0_passComment ⟨Nat.le_of_ble_eq_true rfl, Nat.le_of_ble_eq_true rfl⟩) (lm_preS hK hP hD) rfl rfl hl.1 rfl (lv_room (Nat.le_of_ble_eq_true rfl)) dX0_cutPiece_76 ⟨Nat.zero_le _, Nat.zero_le _⟩) hD hS hA (fun r_335 u_334 H locs q_333 hP hD hS => ?_)
          obtain ⟨rfl, rfl⟩ := q_333
          have hP : va_P (dC, dI) vwCl (lmW cA a0 a1 a2 ((pcZ T Z (lf T (Z 2) (lf T (Z 2) (Z 3 + 1) + 1))).1, T, K)) H := hP
          have hD : va_D A (lmW cA a0 a1 a2 ((pcZ T Z (lf T (Z 2) (lf T (Z 2) (Z 3 + 1) + 1))).1, T, K)) := hD
          have hP : va_P (dC, dI) vwCl (lmW cA a0 a1 a2 ((cpZ T Z K).1, T, (cpZ T Z K).2.1)) H := by rw [cpZ, cpR, if_neg (by omega), if_neg (by rw [c_12]; decide), if_pos (by omega)]; exact hP
          have hD : va_D A (lmW cA a0 a1 a2 ((cpZ T Z K).1, T, (cpZ T Z K).2.1)) := by rw [cpZ, cpR, if_neg (by omega), if_neg (by rw [c_12]; decide), if_pos (by omega)]; exact hD
          exact W.iret (v := nI ((pcZ T Z (lf T (Z 2) (lf T (Z 2) (Z 3 + 1) + 1))).2)) hx hb hr (fun t ht hW => ⟨⟨_, ((cpZ T Z K).1, T, (cpZ T Z K).2.1), rfl, ⟨by rw [cpZ, cpR, if_neg (by omega), if_neg (by rw [c_12]; decide), if_pos (by omega)], rfl⟩, by rw [ht]; exact hP, va_K.moved hW.alike hK, hD⟩, hS.F ht⟩) hS.2.2 dX0_cutPiece_79
    · have c_12 := mt (b2i_z (isB (gb T (Z 2) (Z 3)))).mpr c_12
      refine lv_aload_n hx hb dX0_cutPiece_50 rfl (lv_at hl 3 rfl) ?_
      refine lv_iload_n hx hb dX0_cutPiece_51 rfl (lv_at hl 1 rfl) ?_
      refine lm_calli (va_runV (As := [.int (nI (lf T (Z 2) (Z 3 + 1)))]) (rest := []) ⟨hx, hb, hml, hown, hts⟩ (c_passBlank l dC dI cA a0 a1 a2 s.heap.size Z T K (lf T (Z 2) (Z 3 + 1)) (show Z 2 ≤ 32768 by omega) (show lf T (Z 2) (Z 3 + 1) < 2 ^ 29 by omega) (show Z 3 < 2 ^ 29 by omega)) (cwV 1 hts (gV (fun _ h => h) ml_X0_112 im_X0_passBlank se_X0_passBlank ini_X0 co_X0_passBlank) rfl rfl rfl pd_X0_passBlank ⟨Nat.le_of_ble_eq_true rfl, Nat.le_of_ble_eq_true rfl⟩) (lm_preS hK hP hD) rfl rfl hl.1 rfl (lv_room (Nat.le_of_ble_eq_true rfl)) dX0_cutPiece_52 ⟨Nat.zero_le _, Nat.zero_le _⟩) hD hS hA (fun r_338 u_337 H locs q_336 hP hD hS => ?_)
      obtain ⟨rfl, rfl⟩ := q_336
      have hP : va_P (dC, dI) vwCl (lmW cA a0 a1 a2 ((pbZ T Z (lf T (Z 2) (Z 3 + 1))), T, K)) H := hP
      have hD : va_D A (lmW cA a0 a1 a2 ((pbZ T Z (lf T (Z 2) (Z 3 + 1))), T, K)) := hD
      have hP : va_P (dC, dI) vwCl (lmW cA a0 a1 a2 ((cpZ T Z K).1, T, (cpZ T Z K).2.1)) H := by rw [cpZ, cpR, if_neg (by omega), if_pos (by simpa using c_12)]; exact hP
      have hD : va_D A (lmW cA a0 a1 a2 ((cpZ T Z K).1, T, (cpZ T Z K).2.1)) := by rw [cpZ, cpR, if_neg (by omega), if_pos (by simpa using c_12)]; exact hD
      exact W.iret (v := nI 0) hx hb hr (fun t ht hW => ⟨⟨_, ((cpZ T Z K).1, T, (cpZ T Z K).2.1), rfl, ⟨by rw [cpZ, cpR, if_neg (by omega), if_pos (by simpa using c_12)], rfl⟩, by rw [ht]; exact hP, va_K.moved hW.alike hK, hD⟩, hS.F ht⟩) hS.2.2 dX0_cutPiece_55
  · have c_9 := (bI_eqN (by omega)).mp c_9
    refine lv_aload_n hx hb dX0_cutPiece_32 rfl (lv_at hl 3 rfl) ?_
    refine lv_aload_n hx hb dX0_cutPiece_33 rfl (lv_at hl 3 rfl) ?_
    refine va_get (D := (dC, dI)) (ci := 0) (v := .int (nI (Z 3))) (C := RX0) (T := TX0) (N := 16) hx hb hts inX0 hown hK hP 0 rfl rfl 3 (by decide) (hts _ fl_X0_39) (fun _ h9 => h9) rfl dX0_cutPiece_34 ?_
    refine lv_iconst (v := nI 1) hx hb dX0_cutPiece_37 (by decide) ?_
    refine lv_iadd hx hb dX0_cutPiece_38 ?_
    refine lv_topi (fun x_339 e_340 => ?_)
    obtain rfl : x_339 = nI (Z 3 + 1) := e_340.trans (nI_add (Z 3) 1)
    refine lm_calli (va_runV (As := [.int (nI (Z 3 + 1))]) (rest := []) ⟨hx, hb, hml, hown, hts⟩ (c_passBlank l dC dI cA a0 a1 a2 s.heap.size Z T K (Z 3 + 1) (show Z 2 ≤ 32768 by omega) (show Z 3 + 1 < 2 ^ 29 by omega) (show Z 3 < 2 ^ 29 by omega)) (cwV 1 hts (gV (fun _ h => h) ml_X0_112 im_X0_passBlank se_X0_passBlank ini_X0 co_X0_passBlank) rfl rfl rfl pd_X0_passBlank ⟨Nat.le_of_ble_eq_true rfl, Nat.le_of_ble_eq_true rfl⟩) (lm_preS hK hP hD) rfl rfl hl.1 rfl (lv_room (Nat.le_of_ble_eq_true rfl)) dX0_cutPiece_39 ⟨Nat.zero_le _, Nat.zero_le _⟩) hD hS hA (fun r_343 u_342 H locs q_341 hP hD hS => ?_)
    obtain ⟨rfl, rfl⟩ := q_341
    have hP : va_P (dC, dI) vwCl (lmW cA a0 a1 a2 ((pbZ T Z (Z 3 + 1)), T, K)) H := hP
    have hD : va_D A (lmW cA a0 a1 a2 ((pbZ T Z (Z 3 + 1)), T, K)) := hD
    have hP : va_P (dC, dI) vwCl (lmW cA a0 a1 a2 ((cpZ T Z K).1, T, (cpZ T Z K).2.1)) H := by rw [cpZ, cpR, if_pos (by omega)]; exact hP
    have hD : va_D A (lmW cA a0 a1 a2 ((cpZ T Z K).1, T, (cpZ T Z K).2.1)) := by rw [cpZ, cpR, if_pos (by omega)]; exact hD
    exact W.iret (v := nI 0) hx hb hr (fun t ht hW => ⟨⟨_, ((cpZ T Z K).1, T, (cpZ T Z K).2.1), rfl, ⟨by rw [cpZ, cpR, if_pos (by omega)], rfl⟩, by rw [ht]; exact hP, va_K.moved hW.alike hK, hD⟩, hS.F ht⟩) hS.2.2 dX0_cutPiece_42
end
section
/-! what cutting a piece keeps -/
/-- while a line is cut -/
def lmJ (Z : Nat → Nat) : Prop := Z 2 ≤ 32768 ∧ Z 3 ≤ Z 2 ∧ 1 ≤ Z 4 ∧ Z 4 ≤ Z 3 + 1 ∧ Z 5 ≤ 20000 ∧ Z 6 ≤ 1000 ∧ Z 10 ≤ Z 3 ∧ Z 11 ≤ 1 ∧ Z 14 ≤ 32769 ∧ Z 15 ≤ 32769 ∧ (0 < Z 10 → 1 ≤ Z 12 ∧ Z 12 ≤ 32769) ∧ (8000 < Z 10 → 1 ≤ Z 13 ∧ Z 13 ≤ 32769)
/-- what it leaves alone: the length, the lines counted, the tokens at hand -/
def lmK (Z Y : Nat → Nat) : Prop := Y 2 = Z 2 ∧ Y 5 = Z 5 ∧ Y 9 = Z 9
theorem pbZ_J {T : Nat → Int64} {Z : Nat → Nat} {stop : Nat} (hJ : lmJ Z) (h1 : stop ≤ Z 2) (h2 : Z 3 < stop) : lmJ (pbZ T Z stop) ∧ lmK Z (pbZ T Z stop) ∧ Z 3 < pbZ T Z stop 3 := by
  have hb := pss_b (show pss T (Z 2) stop (Z 3) (Z 4) 0 = ((psZ T Z stop).1, (psZ T Z stop).2.1, (psZ T Z stop).2.2) from rfl)
  have e2 : (pbZ T Z stop) 2 = Z 2 := rfl
  have e3 : (pbZ T Z stop) 3 = (psZ T Z stop).1 := rfl
  have e4 : (pbZ T Z stop) 4 = (psZ T Z stop).2.1 := rfl
  have e5 : (pbZ T Z stop) 5 = Z 5 := rfl
  have e6 : (pbZ T Z stop) 6 = Z 6 := rfl
  have e7 : (pbZ T Z stop) 7 = Z 7 := rfl
  have e8 : (pbZ T Z stop) 8 = Z 8 := rfl
  have e9 : (pbZ T Z stop) 9 = Z 9 := rfl
  have e10 : (pbZ T Z stop) 10 = Z 10 := rfl
  have e11 : (pbZ T Z stop) 11 = 1 := rfl
  have e12 : (pbZ T Z stop) 12 = Z 12 := rfl
  have e13 : (pbZ T Z stop) 13 = Z 13 := rfl
  have e14 : (pbZ T Z stop) 14 = Z 14 := rfl
  have e15 : (pbZ T Z stop) 15 = Z 15 := rfl
  unfold lmJ at hJ ⊢
  unfold lmK
  omega
theorem adZ_J {T : Nat → Int64} {Z : Nat → Nat} {stop : Nat} (hJ : lmJ Z) (h1 : stop ≤ Z 2) (h2 : Z 3 < stop) : lmJ (adZ T Z stop) ∧ lmK Z (adZ T Z stop) ∧ Z 3 < adZ T Z stop 3 := by
  have hb := pss_b (show pss T (Z 2) stop (Z 3) (Z 4) 0 = ((psZ T Z stop).1, (psZ T Z stop).2.1, (psZ T Z stop).2.2) from rfl)
  have e2 : (adZ T Z stop) 2 = Z 2 := rfl
  have e3 : (adZ T Z stop) 3 = (psZ T Z stop).1 := rfl
  have e4 : (adZ T Z stop) 4 = (psZ T Z stop).2.1 := rfl
  have e5 : (adZ T Z stop) 5 = Z 5 := rfl
  have e6 : (adZ T Z stop) 6 = Z 6 := rfl
  have e7 : (adZ T Z stop) 7 = Z 7 := rfl
  have e8 : (adZ T Z stop) 8 = Z 8 := rfl
  have e9 : (adZ T Z stop) 9 = Z 9 := rfl
  have e10 : (adZ T Z stop) 10 = Z 10 + 1 := rfl
  have e11 : (adZ T Z stop) 11 = 0 := rfl
  have e12 : (adZ T Z stop) 12 = (if Z 10 = 0 then Z 4 else Z 12) := rfl
  have e13 : (adZ T Z stop) 13 = (if Z 10 = 8000 then Z 4 else Z 13) := rfl
  have e14 : (adZ T Z stop) 14 = Z 14 := rfl
  have e15 : (adZ T Z stop) 15 = Z 15 := rfl
  unfold lmJ at hJ ⊢
  unfold lmK
  split at e12 <;> split at e13 <;> omega
theorem stZ_J {Z : Nat → Nat} {a b : Nat} (hJ : lmJ Z) : lmJ (zu (zu Z 7 a) 8 b) ∧ lmK Z (zu (zu Z 7 a) 8 b) := by
  have e2 : (zu (zu Z 7 a) 8 b) 2 = Z 2 := rfl
  have e3 : (zu (zu Z 7 a) 8 b) 3 = Z 3 := rfl
  have e4 : (zu (zu Z 7 a) 8 b) 4 = Z 4 := rfl
  have e5 : (zu (zu Z 7 a) 8 b) 5 = Z 5 := rfl
  have e6 : (zu (zu Z 7 a) 8 b) 6 = Z 6 := rfl
  have e7 : (zu (zu Z 7 a) 8 b) 7 = a := rfl
  have e8 : (zu (zu Z 7 a) 8 b) 8 = b := rfl
  have e9 : (zu (zu Z 7 a) 8 b) 9 = Z 9 := rfl
  have e10 : (zu (zu Z 7 a) 8 b) 10 = Z 10 := rfl
  have e11 : (zu (zu Z 7 a) 8 b) 11 = Z 11 := rfl
  have e12 : (zu (zu Z 7 a) 8 b) 12 = Z 12 := rfl
  have e13 : (zu (zu Z 7 a) 8 b) 13 = Z 13 := rfl
  have e14 : (zu (zu Z 7 a) 8 b) 14 = Z 14 := rfl
  have e15 : (zu (zu Z 7 a) 8 b) 15 = Z 15 := rfl
  unfold lmJ at hJ ⊢
  unfold lmK
  omega
theorem s6_J {Z : Nat → Nat} (hJ : lmJ Z) (h : Z 6 < 1000) : lmJ (zu Z 6 (Z 6 + 1)) := by
  have e2 : (zu Z 6 (Z 6 + 1)) 2 = Z 2 := rfl
  have e3 : (zu Z 6 (Z 6 + 1)) 3 = Z 3 := rfl
  have e4 : (zu Z 6 (Z 6 + 1)) 4 = Z 4 := rfl
  have e5 : (zu Z 6 (Z 6 + 1)) 5 = Z 5 := rfl
  have e6 : (zu Z 6 (Z 6 + 1)) 6 = Z 6 + 1 := rfl
  have e7 : (zu Z 6 (Z 6 + 1)) 7 = Z 7 := rfl
  have e8 : (zu Z 6 (Z 6 + 1)) 8 = Z 8 := rfl
  have e9 : (zu Z 6 (Z 6 + 1)) 9 = Z 9 := rfl
  have e10 : (zu Z 6 (Z 6 + 1)) 10 = Z 10 := rfl
  have e11 : (zu Z 6 (Z 6 + 1)) 11 = Z 11 := rfl
  have e12 : (zu Z 6 (Z 6 + 1)) 12 = Z 12 := rfl
  have e13 : (zu Z 6 (Z 6 + 1)) 13 = Z 13 := rfl
  have e14 : (zu Z 6 (Z 6 + 1)) 14 = Z 14 := rfl
  have e15 : (zu Z 6 (Z 6 + 1)) 15 = Z 15 := rfl
  unfold lmJ at hJ ⊢
  omega
theorem pcZ_J {T : Nat → Int64} {Z : Nat → Nat} {q : Nat} (hJ : lmJ Z) (h2 : Z 3 < q) : lmJ (pcZ T Z q).1 ∧ lmK Z (pcZ T Z q).1 ∧ ((pcZ T Z q).2 = 0 → Z 3 < (pcZ T Z q).1 3) ∧ (pcZ T Z q).2 ≤ 21 := by
  unfold pcZ
  cases h : cmE T (Z 2) q false with
  | none => exact ⟨(stZ_J hJ).1, (stZ_J hJ).2, fun z => absurd (show 1 = 0 from z) (by decide), show 1 ≤ 21 by decide⟩
  | some stop =>
    have hb := cmE_b h
    have h3 := pbZ_J (T := T) (stop := stop) hJ (by omega) (by omega)
    exact ⟨h3.1, h3.2.1, fun _ => h3.2.2, Nat.zero_le _⟩
theorem qeZ_J {T : Nat → Int64} {Z : Nat → Nat} {g y : Nat} (hJ : lmJ Z) (hg : g < Z 2) : lmJ (qeZ T Z g y).2 ∧ lmK Z (qeZ T Z g y).2 := by
  have hu := qeZ_u (T := T) (Z := Z) (p := g) (y := y) (B := 32769) (by unfold lmJ at hJ; omega) (by unfold lmJ at hJ; omega) (by unfold lmJ at hJ; omega) (by unfold lmJ at hJ; omega)
  have e2 : (qeZ T Z g y).2 2 = Z 2 := qeZ_k (by decide) (by decide)
  have e3 : (qeZ T Z g y).2 3 = Z 3 := qeZ_k (by decide) (by decide)
  have e4 : (qeZ T Z g y).2 4 = Z 4 := qeZ_k (by decide) (by decide)
  have e5 : (qeZ T Z g y).2 5 = Z 5 := qeZ_k (by decide) (by decide)
  have e6 : (qeZ T Z g y).2 6 = Z 6 := qeZ_k (by decide) (by decide)
  have e7 : (qeZ T Z g y).2 7 = Z 7 := qeZ_k (by decide) (by decide)
  have e8 : (qeZ T Z g y).2 8 = Z 8 := qeZ_k (by decide) (by decide)
  have e9 : (qeZ T Z g y).2 9 = Z 9 := qeZ_k (by decide) (by decide)
  have e10 : (qeZ T Z g y).2 10 = Z 10 := qeZ_k (by decide) (by decide)
  have e11 : (qeZ T Z g y).2 11 = Z 11 := qeZ_k (by decide) (by decide)
  have e12 : (qeZ T Z g y).2 12 = Z 12 := qeZ_k (by decide) (by decide)
  have e13 : (qeZ T Z g y).2 13 = Z 13 := qeZ_k (by decide) (by decide)
  unfold lmJ at hJ ⊢
  unfold lmK
  omega
theorem cqZ_J {T : Nat → Int64} {Z : Nat → Nat} {K : Nat → Int64} {y : Nat} (hJ : lmJ Z) (h : Z 3 < Z 2) : lmJ (cqZ T Z K y).1 ∧ lmK Z (cqZ T Z K y).1 ∧ ((cqZ T Z K y).2.2 = 0 → Z 3 < (cqZ T Z K y).1 3) ∧ (cqZ T Z K y).2.2 ≤ 21 := by
  have hq := qeZ_J (T := T) (y := y) hJ h
  have e2 : (qeZ T Z (Z 3) y).2 2 = Z 2 := qeZ_k (by decide) (by decide)
  have e3 : (qeZ T Z (Z 3) y).2 3 = Z 3 := qeZ_k (by decide) (by decide)
  unfold cqZ
  have hs := fun x => qeZ_s (T := T) (Z := Z) (p := Z 3) (y := y) (x := x)
  generalize (qeZ T Z (Z 3) y).2 = Y at hq e2 e3 ⊢
  generalize (qeZ T Z (Z 3) y).1 = o at hs ⊢
  obtain ⟨hY, hK⟩ := hq
  cases o with
  | some stop =>
    have hb := hs stop rfl
    have h3 := adZ_J (T := T) (stop := stop) hY (by omega) (by omega)
    show lmJ (adZ T Y stop) ∧ lmK Z (adZ T Y stop) ∧ (0 = 0 → Z 3 < adZ T Y stop 3) ∧ 0 ≤ 21
    have h4 := h3.2.1
    unfold lmK at h4 hK ⊢
    exact ⟨h3.1, by omega, fun _ => by omega, by omega⟩
  | none =>
    unfold cqR
    dsimp only
    by_cases c : 1000 ≤ Y 6
    · rw [if_pos c]
      have h4 := (stZ_J (a := Y 4) (b := 1) hY).2
      unfold lmK at h4 hK ⊢
      exact ⟨(stZ_J hY).1, by dsimp only; omega, fun z => absurd (show 21 = 0 from z) (by decide), show 21 ≤ 21 by decide⟩
    · rw [if_neg c]
      have hl := lf_b T (Y 2) (Y 3 + 1)
      have h3 := adZ_J (T := T) (Z := zu Y 6 (Y 6 + 1)) (stop := lf T (Y 2) (Y 3 + 1)) (s6_J hY (by omega)) (by show _ ≤ Y 2; omega) (by show Y 3 < _; omega)
      have h4 : lmK Y (adZ T (zu Y 6 (Y 6 + 1)) (lf T (Y 2) (Y 3 + 1))) := h3.2.1
      have h5 : Y 3 < adZ T (zu Y 6 (Y 6 + 1)) (lf T (Y 2) (Y 3 + 1)) 3 := h3.2.2
      unfold lmK at h4 hK ⊢
      exact ⟨h3.1, by dsimp only; omega, fun _ => by dsimp only; omega, Nat.zero_le _⟩
theorem cwZ_J {T : Nat → Int64} {Z : Nat → Nat} {K : Nat → Int64} {g y : Nat} (hJ : lmJ Z) (h : Z 3 < g) (hg : g < Z 2) : lmJ (cwZ T Z K g y).1 ∧ lmK Z (cwZ T Z K g y).1 ∧ ((cwZ T Z K g y).2.2 = 0 → Z 3 < (cwZ T Z K g y).1 3) ∧ (cwZ T Z K g y).2.2 ≤ 21 := by
  have hq := qeZ_J (T := T) (y := y) hJ hg
  have e2 : (qeZ T Z g y).2 2 = Z 2 := qeZ_k (by decide) (by decide)
  have e3 : (qeZ T Z g y).2 3 = Z 3 := qeZ_k (by decide) (by decide)
  unfold cwZ
  have hs := fun x => qeZ_s (T := T) (Z := Z) (p := g) (y := y) (x := x)
  generalize (qeZ T Z g y).2 = Y at hq e2 e3 ⊢
  generalize (qeZ T Z g y).1 = o at hs ⊢
  obtain ⟨hY, hK⟩ := hq
  cases o with
  | some stop =>
    have hb := hs stop rfl
    have h3 := adZ_J (T := T) (stop := stop) hY (by omega) (by omega)
    show lmJ (adZ T Y stop) ∧ lmK Z (adZ T Y stop) ∧ (0 = 0 → Z 3 < adZ T Y stop 3) ∧ 0 ≤ 21
    have h4 := h3.2.1
    unfold lmK at h4 hK ⊢
    exact ⟨h3.1, by omega, fun _ => by omega, by omega⟩
  | none =>
    have h3 := adZ_J (T := T) (stop := g) hY (by omega) (by omega)
    show lmJ (adZ T Y g) ∧ lmK Z (adZ T Y g) ∧ (0 = 0 → Z 3 < adZ T Y g 3) ∧ 0 ≤ 21
    have h4 := h3.2.1
    unfold lmK at h4 hK ⊢
    exact ⟨h3.1, by omega, fun _ => by omega, by omega⟩
theorem csZ_J {T : Nat → Int64} {Z : Nat → Nat} {K : Nat → Int64} {x y b : Nat} (hJ : lmJ Z) (h : Z 3 < b) (hb : b ≤ Z 2) (hy : y = gb T (Z 2) b) : lmJ (csZ T Z K x y b).1 ∧ lmK Z (csZ T Z K x y b).1 ∧ ((csZ T Z K x y b).2.2 = 0 → Z 3 < (csZ T Z K x y b).1 3) ∧ (csZ T Z K x y b).2.2 ≤ 21 := by
  have g1 := gb_in T (Z 2) b
  have g2 := gb_in T (Z 2) (lf T (Z 2) (b + 1))
  have l1 := lf_b T (Z 2) (b + 1)
  have l2 := lf_b T (Z 2) (lf T (Z 2) (b + 1) + 1)
  unfold csZ
  by_cases c : hsG 0 3 x y (gb T (Z 2) (lf T (Z 2) (b + 1))) 65 0 = true
  · rw [if_pos c]
    have h1 := hsG_y (by decide) (by decide) 65 0 c
    have h2 := h1.2 (by decide)
    have h3 := adZ_J (T := T) (stop := lf T (Z 2) (lf T (Z 2) (b + 1) + 1)) hJ (by omega) (by omega)
    exact ⟨h3.1, h3.2.1, fun _ => h3.2.2, Nat.zero_le _⟩
  · rw [if_neg c]
    by_cases d : hsG 1 2 x y (gb T (Z 2) (lf T (Z 2) (b + 1))) 65 0 = true
    · rw [if_pos d]
      have h1 := hsG_y (by decide) (by decide) 65 0 d
      have h3 := adZ_J (T := T) (stop := lf T (Z 2) (b + 1)) hJ (by omega) (by omega)
      exact ⟨h3.1, h3.2.1, fun _ => h3.2.2, Nat.zero_le _⟩
    · rw [if_neg d]
      have h3 := adZ_J (T := T) (stop := b) hJ (by omega) (by omega)
      exact ⟨h3.1, h3.2.1, fun _ => h3.2.2, Nat.zero_le _⟩
theorem cpZ_J {T : Nat → Int64} {Z : Nat → Nat} {K : Nat → Int64} (hJ : lmJ Z) (h : Z 3 < Z 2) : lmJ (cpZ T Z K).1 ∧ lmK Z (cpZ T Z K).1 ∧ ((cpZ T Z K).2.2 = 0 → Z 3 < (cpZ T Z K).1 3) ∧ (cpZ T Z K).2.2 ≤ 21 := by
  have l1 := lf_b T (Z 2) (Z 3 + 1)
  have g1 := gb_in T (Z 2) (lf T (Z 2) (Z 3 + 1))
  unfold cpZ
  generalize hb : lf T (Z 2) (Z 3 + 1) = b at l1 g1 ⊢
  generalize hx : gb T (Z 2) (Z 3) = x
  generalize hy : gb T (Z 2) b = y at g1 ⊢
  unfold cpR
  by_cases c1 : x = 10
  · rw [if_pos c1]
    have h3 := pbZ_J (T := T) (stop := Z 3 + 1) hJ (by omega) (by omega)
    exact ⟨h3.1, h3.2.1, fun _ => h3.2.2, Nat.zero_le _⟩
  rw [if_neg c1]
  by_cases c2 : isB x = true
  · rw [if_pos c2]
    have h3 := pbZ_J (T := T) (stop := b) hJ (by omega) (by omega)
    exact ⟨h3.1, h3.2.1, fun _ => h3.2.2, Nat.zero_le _⟩
  rw [if_neg c2]
  by_cases c3 : x = 47 ∧ y = 42
  · rw [if_pos c3]
    have l2 := lf_b T (Z 2) (b + 1)
    exact pcZ_J hJ (by omega)
  rw [if_neg c3]
  by_cases c4 : x = 47 ∧ y = 47
  · rw [if_pos c4]
    have l2 := lnE_b T (Z 2) b
    have h3 := pbZ_J (T := T) (stop := lnE T (Z 2) b) hJ (by omega) (by omega)
    exact ⟨h3.1, h3.2.1, fun _ => h3.2.2, Nat.zero_le _⟩
  rw [if_neg c4]
  by_cases c5 : isQ x = true
  · rw [if_pos c5]
    exact cqZ_J hJ h
  rw [if_neg c5]
  by_cases c6 : x = 76 ∧ isQ y = true
  · rw [if_pos c6]
    have := isQ_lt c6.2
    exact cwZ_J hJ (by omega) (by omega)
  rw [if_neg c6]
  by_cases c7 : isL x = true
  · rw [if_pos c7]
    have l2 := nmE_b T (Z 2) b
    have h3 := adZ_J (T := T) (stop := nmE T (Z 2) b) hJ (by omega) (by omega)
    exact ⟨h3.1, h3.2.1, fun _ => h3.2.2, Nat.zero_le _⟩
  rw [if_neg c7]
  by_cases c8 : isD x = true ∨ (x = 46 ∧ isD y = true)
  · rw [if_pos c8]
    have l2 := nuE_b T (Z 2) b x
    have h3 := adZ_J (T := T) (stop := nuE T (Z 2) b x) hJ (by omega) (by omega)
    exact ⟨h3.1, h3.2.1, fun _ => h3.2.2, Nat.zero_le _⟩
  rw [if_neg c8]
  exact csZ_J hJ (by omega) (by omega) hy.symm
/-- the loop of next: k turns at most; e0: the line has ended; f: the fault -/
def nxL (T : Nat → Int64) : Nat → (Nat → Nat) → (Nat → Int64) → Nat → Nat → (Nat → Nat) × (Nat → Int64) × Nat
  | 0, Z, K, _, f => (Z, K, f)
  | k + 1, Z, K, e0, f => if Z 3 < Z 2 ∧ e0 = 0 ∧ f = 0 then nxL T k (cpZ T Z K).1 (cpZ T Z K).2.1 (if gb T (Z 2) (Z 3) = 10 then 1 else 0) (cpZ T Z K).2.2 else (Z, K, f)
/-- behind the loop -/
def nxE (w : (Nat → Nat) × (Nat → Int64) × Nat) : (Nat → Nat) × (Nat → Int64) × Nat := if w.2.2 = 0 then ((clZ w.1).1, w.2.1, (clZ w.1).2) else w
/-- the answer of next: the fault, or the count -/
def nxA (w : (Nat → Nat) × (Nat → Int64) × Nat) : Int32 := if w.2.2 = 0 then nI (w.1 9) else (-10) - nI w.2.2
end
section
theorem nxE_0 {Z : Nat → Nat} {K : Nat → Int64} {f : Nat} (h : f = 0) : nxE (Z, K, f) = ((clZ Z).1, K, (clZ Z).2) := by rw [nxE, if_pos h]
theorem nxE_n {Z : Nat → Nat} {K : Nat → Int64} {f : Nat} (h : ¬ f = 0) : nxE (Z, K, f) = (Z, K, f) := by rw [nxE, if_neg h]
theorem nxA_0 {Z : Nat → Nat} {K : Nat → Int64} {f : Nat} (h : f = 0) : nxA (Z, K, f) = nI (Z 9) := by rw [nxA, if_pos h]
theorem nxA_n {Z : Nat → Nat} {K : Nat → Int64} {f : Nat} (h : ¬ f = 0) : nxA (Z, K, f) = (-10) - nI f := by rw [nxA, if_neg h]
def nxY (T : Nat → Int64) (Z : Nat → Nat) : Nat → Nat := zu (zu (zu Z 3 (pss T (Z 2) (lf T (Z 2) (Z 3)) (Z 3) (Z 4) 0).1) 4 (pss T (Z 2) (lf T (Z 2) (Z 3)) (Z 3) (Z 4) 0).2.1) 9 0
def nxS (Y : Nat → Nat) : Nat → Nat := zu (zu (zu (zu Y 10 0) 11 1) 14 0) 15 0
/-- next: fields, tokens, answer -/
def nxZ (T : Nat → Int64) (Z : Nat → Nat) (K : Nat → Int64) : (Nat → Nat) × (Nat → Int64) × Int32 :=
  if ¬ Z 8 = 0 then (zu Z 9 0, K, -2)
  else if Z 2 ≤ nxY T Z 3 then (nxY T Z, K, -2)
  else ((nxE (nxL T 40000 (nxS (nxY T Z)) K 0 0)).1, (nxE (nxL T 40000 (nxS (nxY T Z)) K 0 0)).2.1, nxA (nxE (nxL T 40000 (nxS (nxY T Z)) K 0 0)))
/-- between calls -/
def lmI (Z : Nat → Nat) : Prop := Z 2 ≤ 32768 ∧ Z 3 ≤ Z 2 ∧ 1 ≤ Z 4 ∧ Z 4 ≤ Z 3 + 1 ∧ Z 5 ≤ 20000 ∧ Z 6 ≤ 1000 ∧ Z 8 ≤ 1 ∧ Z 9 ≤ 8000
theorem clZ_2 (Z : Nat → Nat) : (clZ Z).2 ≤ 21 := by
  unfold clZ
  split
  · exact Nat.zero_le _
  · split
    · exact Nat.le_refl _
    · split
      · exact Nat.le_refl _
      · exact Nat.zero_le _
set_option maxHeartbeats 4000000 in
set_option maxRecDepth 100000 in
theorem k_next_52 {p : Program} {l : Launch} {e : Env} {s : State} {m : MethodId} {args : Array Value} {below : List Frame} {meth : Method} {c : Code} {A : Nat → Prop} (hx : p.tables.exec = Jvm.exec) (hb : c.code = cX0_next) (hr : meth.sig.returnType = (some .int)) (hml : c.maxLocals = 4) (hown : s.vm.findClass RX0 = some m.cls) (hts : ∀ w ∈ bw, w.before args s = true) (hlocks : meth.locks = false) {dC : Nat → ClassId} {dI : Nat → Nat → Nat} {cA : ClassId} {a0 a1 a2 : Nat} {T : Nat → Int64} {dK dV : Nat → Nat} {A0 : Nat → Prop} (hK : va_K (dC, dI) vwCl [(cA, .long)] s) (hA : ∀ q, s.heap.size ≤ q → A q) (hw : swd dK dV A0 s s.heap) (hAA : ∀ q, A q → A0 q) (P : Int32 → lmU → Prop) : ∀ (k : Nat) (Z : Nat → Nat) (K : Nat → Int64) (e0 f t : Nat), (Z 2 - Z 3 < k ∨ (f ≠ 0 ∧ 0 < k)) → lmJ Z → (t ≤ Z 3 ∨ f ≠ 0) → t ≤ 32769 → e0 ≤ 1 → f ≤ 21 → P (nxA (nxE (nxL T k Z K e0 f))) ((nxE (nxL T k Z K e0 f)).1, T, (nxE (nxL T k Z K e0 f)).2.1) → ∀ (H : Heap) (locs : List Loc), va_P (dC, dI) vwCl (lmW cA a0 a1 a2 (Z, T, K)) H → va_D A (lmW cA a0 a1 a2 (Z, T, K)) → va_S A s.heap H locs → ∀ ls, lv_has ls 4 [(0, .ref a0), (1, .int (nI f)), (2, .int (nI e0)), (3, .int (nI t))] → W p l e (headSpec wX0_next ({ frames := 7, cells := 0, slots := 0, locals := 159 })).room s m args below meth c H locs 0 0 (MQ below (va_Qi P (lmB dC dI cA a0 a1 a2 A) A) args s 0 0 A) (F0 m 52 ls []) := by
  intro k
  induction k with
  | zero => intro Z K e0 f t hk; exact absurd hk (by omega)
  | succ k ih =>
    intro Z K e0 f t hk hJ ht ht2 he hf hQ H locs hP hD hS ls hl
    have hJ2 := hJ
    unfold lmJ at hJ2
    have hc2 := clZ_2 Z
    refine lv_iload_n hx hb dX0_next_52 rfl (lv_at hl 3 rfl) ?_
    refine lv_ldc (v := nI 32768) hx hb hown (hts _ cn_X0_23) dX0_next_53 ?_
    refine lv_icmp_ge (tgt := 107) hx hb dX0_next_55 (by decide) (fun c_1 => ?_) (fun c_1 => ?_)
    · have c_1 := (nI_leI (a := 32768) (b := t) (by omega) (by omega)).mp c_1
      refine lv_iload_n hx hb dX0_next_107 rfl (lv_at hl 1 rfl) ?_
      refine lv_if_ne (tgt := 116) hx hb dX0_next_108 (by decide) (fun c_2 => ?_) (fun c_2 => ?_)
      · have c_2 := mt (nI_eq (a := f) (b := 0) (by omega) (by omega)).mpr c_2
        refine lv_iload_n hx hb dX0_next_116 rfl (lv_at hl 1 rfl) ?_
        refine lv_if_ne (tgt := 127) hx hb dX0_next_117 (by decide) (fun c_3 => ?_) (fun c_3 => ?_)
        · have c_3 := mt (nI_eq (a := f) (b := 0) (by omega) (by omega)).mpr c_3
          refine lv_bipush (v := (-10)) hx hb dX0_next_127 (by decide) ?_
          refine lv_iload_n hx hb dX0_next_129 rfl (lv_at hl 1 rfl) ?_
          refine lv_isub hx hb dX0_next_130 ?_
          exact W.iret (v := ((-10)) - (nI f)) hx hb hr (fun t ht hW => ⟨⟨_, (Z, T, K), rfl, (by rw [nxL, if_neg (by omega), nxE_n (by omega), nxA_n (by omega)] at hQ; exact hQ), by rw [ht]; exact hP, va_K.moved hW.alike hK, hD⟩, hS.F ht⟩) hS.2.2 dX0_next_131
        · have c_3 := (nI_eq (a := f) (b := 0) (by omega) (by omega)).mp c_3
          refine lv_aload_n hx hb dX0_next_120 rfl (lv_at hl 0 rfl) ?_
          refine va_get (D := (dC, dI)) (ci := 0) (v := .int (nI (Z 9))) (C := RX0) (T := TX0) (N := 16) hx hb hts inX0 hown hK hP 0 rfl rfl 9 (by decide) (hts _ fl_X0_32) (fun _ h9 => h9) rfl dX0_next_121 ?_
          refine lv_goto (tgt := 131) hx hb dX0_next_124 (by decide) ?_
          exact W.iret (v := nI (Z 9)) hx hb hr (fun t ht hW => ⟨⟨_, (Z, T, K), rfl, (by rw [nxL, if_neg (by omega), nxE_n (by omega), nxA_0 (by omega)] at hQ; exact hQ), by rw [ht]; exact hP, va_K.moved hW.alike hK, hD⟩, hS.F ht⟩) hS.2.2 dX0_next_131
      · have c_2 := (nI_eq (a := f) (b := 0) (by omega) (by omega)).mp c_2
        refine lv_aload_n hx hb dX0_next_111 rfl (lv_at hl 0 rfl) ?_
        refine lm_calli (va_runV (As := []) (rest := []) ⟨hx, hb, hml, hown, hts⟩ (c_closeLine l dC dI cA a0 a1 a2 H.size Z T K (show Z 10 < 2 ^ 29 by omega) (show Z 5 < 2 ^ 29 by omega)) (cwV 0 hts (gV (fun _ h => h) ml_X0_55 im_X0_closeLine se_X0_closeLine ini_X0 co_X0_closeLine) rfl rfl rfl pd_X0_closeLine ⟨Nat.le_of_ble_eq_true rfl, Nat.le_of_ble_eq_true rfl⟩) (lm_preS hK hP hD) rfl rfl hl.1 rfl (lv_room (Nat.le_of_ble_eq_true rfl)) dX0_next_112 ⟨Nat.zero_le _, Nat.zero_le _⟩) hD hS hA (fun r_6 u_5 H locs q_4 hP hD hS => ?_)
        obtain ⟨rfl, rfl⟩ := q_4
        have hP : va_P (dC, dI) vwCl (lmW cA a0 a1 a2 ((clZ Z).1, T, K)) H := hP
        have hD : va_D A (lmW cA a0 a1 a2 ((clZ Z).1, T, K)) := hD
        refine lv_istore_n (lv' := [(1, .int (nI ((clZ Z).2))), (0, .ref a0), (2, .int (nI e0)), (3, .int (nI t))]) hx hb dX0_next_115 rfl hl (by decide) rfl (fun ls hl => ?_)
        refine lv_iload_n hx hb dX0_next_116 rfl (lv_at hl 0 rfl) ?_
        refine lv_if_ne (tgt := 127) hx hb dX0_next_117 (by decide) (fun c_7 => ?_) (fun c_7 => ?_)
        · have c_7 := mt (nI_eq (a := (clZ Z).2) (b := 0) (by omega) (by omega)).mpr c_7
          refine lv_bipush (v := (-10)) hx hb dX0_next_127 (by decide) ?_
          refine lv_iload_n hx hb dX0_next_129 rfl (lv_at hl 0 rfl) ?_
          refine lv_isub hx hb dX0_next_130 ?_
          exact W.iret (v := ((-10)) - (nI ((clZ Z).2))) hx hb hr (fun t ht hW => ⟨⟨_, ((clZ Z).1, T, K), rfl, (by rw [nxL, if_neg (by omega), nxE_0 (by omega), nxA_n (by omega)] at hQ; exact hQ), by rw [ht]; exact hP, va_K.moved hW.alike hK, hD⟩, hS.F ht⟩) hS.2.2 dX0_next_131
        · have c_7 := (nI_eq (a := (clZ Z).2) (b := 0) (by omega) (by omega)).mp c_7
          refine lv_aload_n hx hb dX0_next_120 rfl (lv_at hl 1 rfl) ?_
          refine va_get (D := (dC, dI)) (ci := 0) (v := .int (nI ((clZ Z).1 9))) (C := RX0) (T := TX0) (N := 16) hx hb hts inX0 hown hK hP 0 rfl rfl 9 (by decide) (hts _ fl_X0_32) (fun _ h9 => h9) rfl dX0_next_121 ?_
          refine lv_goto (tgt := 131) hx hb dX0_next_124 (by decide) ?_
          exact W.iret (v := nI ((clZ Z).1 9)) hx hb hr (fun t ht hW => ⟨⟨_, ((clZ Z).1, T, K), rfl, (by rw [nxL, if_neg (by omega), nxE_0 (by omega), nxA_0 (by omega)] at hQ; exact hQ), by rw [ht]; exact hP, va_K.moved hW.alike hK, hD⟩, hS.F ht⟩) hS.2.2 dX0_next_131
    · have c_1 := mt (nI_leI (a := 32768) (b := t) (by omega) (by omega)).mpr c_1
      refine lv_aload_n hx hb dX0_next_58 rfl (lv_at hl 0 rfl) ?_
      refine va_get (D := (dC, dI)) (ci := 0) (v := .int (nI (Z 3))) (C := RX0) (T := TX0) (N := 16) hx hb hts inX0 hown hK hP 0 rfl rfl 3 (by decide) (hts _ fl_X0_39) (fun _ h9 => h9) rfl dX0_next_59 ?_
      refine lv_aload_n hx hb dX0_next_62 rfl (lv_at hl 0 rfl) ?_
      refine va_get (D := (dC, dI)) (ci := 0) (v := .int (nI (Z 2))) (C := RX0) (T := TX0) (N := 16) hx hb hts inX0 hown hK hP 0 rfl rfl 2 (by decide) (hts _ fl_X0_19) (fun _ h9 => h9) rfl dX0_next_63 ?_
      refine lv_icmp_ge (tgt := 107) hx hb dX0_next_66 (by decide) (fun c_8 => ?_) (fun c_8 => ?_)
      · have c_8 := (nI_leI (a := Z 2) (b := Z 3) (by omega) (by omega)).mp c_8
        refine lv_iload_n hx hb dX0_next_107 rfl (lv_at hl 1 rfl) ?_
        refine lv_if_ne (tgt := 116) hx hb dX0_next_108 (by decide) (fun c_9 => ?_) (fun c_9 => ?_)
        · have c_9 := mt (nI_eq (a := f) (b := 0) (by omega) (by omega)).mpr c_9
          refine lv_iload_n hx hb dX0_next_116 rfl (lv_at hl 1 rfl) ?_
          refine lv_if_ne (tgt := 127) hx hb dX0_next_117 (by decide) (fun c_10 => ?_) (fun c_10 => ?_)
          · have c_10 := mt (nI_eq (a := f) (b := 0) (by omega) (by omega)).mpr c_10
            refine lv_bipush (v := (-10)) hx hb dX0_next_127 (by decide) ?_
            refine lv_iload_n hx hb dX0_next_129 rfl (lv_at hl 1 rfl) ?_
            refine lv_isub hx hb dX0_next_130 ?_
            exact W.iret (v := ((-10)) - (nI f)) hx hb hr (fun t ht hW => ⟨⟨_, (Z, T, K), rfl, (by rw [nxL, if_neg (by omega), nxE_n (by omega), nxA_n (by omega)] at hQ; exact hQ), by rw [ht]; exact hP, va_K.moved hW.alike hK, hD⟩, hS.F ht⟩) hS.2.2 dX0_next_131
          · have c_10 := (nI_eq (a := f) (b := 0) (by omega) (by omega)).mp c_10
            refine lv_aload_n hx hb dX0_next_120 rfl (lv_at hl 0 rfl) ?_
            refine va_get (D := (dC, dI)) (ci := 0) (v := .int (nI (Z 9))) (C := RX0) (T := TX0) (N := 16) hx hb hts inX0 hown hK hP 0 rfl rfl 9 (by decide) (hts _ fl_X0_32) (fun _ h9 => h9) rfl dX0_next_121 ?_
            refine lv_goto (tgt := 131) hx hb dX0_next_124 (by decide) ?_
            exact W.iret (v := nI (Z 9)) hx hb hr (fun t ht hW => ⟨⟨_, (Z, T, K), rfl, (by rw [nxL, if_neg (by omega), nxE_n (by omega), nxA_0 (by omega)] at hQ; exact hQ), by rw [ht]; exact hP, va_K.moved hW.alike hK, hD⟩, hS.F ht⟩) hS.2.2 dX0_next_131
        · have c_9 := (nI_eq (a := f) (b := 0) (by omega) (by omega)).mp c_9
          refine lv_aload_n hx hb dX0_next_111 rfl (lv_at hl 0 rfl) ?_
          refine lm_calli (va_runV (As := []) (rest := []) ⟨hx, hb, hml, hown, hts⟩ (c_closeLine l dC dI cA a0 a1 a2 H.size Z T K (show Z 10 < 2 ^ 29 by omega) (show Z 5 < 2 ^ 29 by omega)) (cwV 0 hts (gV (fun _ h => h) ml_X0_55 im_X0_closeLine se_X0_closeLine ini_X0 co_X0_closeLine) rfl rfl rfl pd_X0_closeLine ⟨Nat.le_of_ble_eq_true rfl, Nat.le_of_ble_eq_true rfl⟩) (lm_preS hK hP hD) rfl rfl hl.1 rfl (lv_room (Nat.le_of_ble_eq_true rfl)) dX0_next_112 ⟨Nat.zero_le _, Nat.zero_le _⟩) hD hS hA (fun r_13 u_12 H locs q_11 hP hD hS => ?_)
          obtain ⟨rfl, rfl⟩ := q_11
          have hP : va_P (dC, dI) vwCl (lmW cA a0 a1 a2 ((clZ Z).1, T, K)) H := hP
          have hD : va_D A (lmW cA a0 a1 a2 ((clZ Z).1, T, K)) := hD
          refine lv_istore_n (lv' := [(1, .int (nI ((clZ Z).2))), (0, .ref a0), (2, .int (nI e0)), (3, .int (nI t))]) hx hb dX0_next_115 rfl hl (by decide) rfl (fun ls hl => ?_)
          refine lv_iload_n hx hb dX0_next_116 rfl (lv_at hl 0 rfl) ?_
          refine lv_if_ne (tgt := 127) hx hb dX0_next_117 (by decide) (fun c_14 => ?_) (fun c_14 => ?_)
          · have c_14 := mt (nI_eq (a := (clZ Z).2) (b := 0) (by omega) (by omega)).mpr c_14
            refine lv_bipush (v := (-10)) hx hb dX0_next_127 (by decide) ?_
            refine lv_iload_n hx hb dX0_next_129 rfl (lv_at hl 0 rfl) ?_
            refine lv_isub hx hb dX0_next_130 ?_
            exact W.iret (v := ((-10)) - (nI ((clZ Z).2))) hx hb hr (fun t ht hW => ⟨⟨_, ((clZ Z).1, T, K), rfl, (by rw [nxL, if_neg (by omega), nxE_0 (by omega), nxA_n (by omega)] at hQ; exact hQ), by rw [ht]; exact hP, va_K.moved hW.alike hK, hD⟩, hS.F ht⟩) hS.2.2 dX0_next_131
          · have c_14 := (nI_eq (a := (clZ Z).2) (b := 0) (by omega) (by omega)).mp c_14
            refine lv_aload_n hx hb dX0_next_120 rfl (lv_at hl 1 rfl) ?_
            refine va_get (D := (dC, dI)) (ci := 0) (v := .int (nI ((clZ Z).1 9))) (C := RX0) (T := TX0) (N := 16) hx hb hts inX0 hown hK hP 0 rfl rfl 9 (by decide) (hts _ fl_X0_32) (fun _ h9 => h9) rfl dX0_next_121 ?_
            refine lv_goto (tgt := 131) hx hb dX0_next_124 (by decide) ?_
            exact W.iret (v := nI ((clZ Z).1 9)) hx hb hr (fun t ht hW => ⟨⟨_, ((clZ Z).1, T, K), rfl, (by rw [nxL, if_neg (by omega), nxE_0 (by omega), nxA_0 (by omega)] at hQ; exact hQ), by rw [ht]; exact hP, va_K.moved hW.alike hK, hD⟩, hS.F ht⟩) hS.2.2 dX0_next_131
      · have c_8 := mt (nI_leI (a := Z 2) (b := Z 3) (by omega) (by omega)).mpr c_8
        refine lv_iload_n hx hb dX0_next_69 rfl (lv_at hl 2 rfl) ?_
        refine lv_if_ne (tgt := 107) hx hb dX0_next_70 (by decide) (fun c_15 => ?_) (fun c_15 => ?_)
        · have c_15 := mt (nI_eq (a := e0) (b := 0) (by omega) (by omega)).mpr c_15
          refine lv_iload_n hx hb dX0_next_107 rfl (lv_at hl 1 rfl) ?_
          refine lv_if_ne (tgt := 116) hx hb dX0_next_108 (by decide) (fun c_16 => ?_) (fun c_16 => ?_)
          · have c_16 := mt (nI_eq (a := f) (b := 0) (by omega) (by omega)).mpr c_16
            refine lv_iload_n hx hb dX0_next_116 rfl (lv_at hl 1 rfl) ?_
            refine lv_if_ne (tgt := 127) hx hb dX0_next_117 (by decide) (fun c_17 => ?_) (fun c_17 => ?_)
            · have c_17 := mt (nI_eq (a := f) (b := 0) (by omega) (by omega)).mpr c_17
              refine lv_bipush (v := (-10)) hx hb dX0_next_127 (by decide) ?_
              refine lv_iload_n hx hb dX0_next_129 rfl (lv_at hl 1 rfl) ?_
              refine lv_isub hx hb dX0_next_130 ?_
              exact W.iret (v := ((-10)) - (nI f)) hx hb hr (fun t ht hW => ⟨⟨_, (Z, T, K), rfl, (by rw [nxL, if_neg (by omega), nxE_n (by omega), nxA_n (by omega)] at hQ; exact hQ), by rw [ht]; exact hP, va_K.moved hW.alike hK, hD⟩, hS.F ht⟩) hS.2.2 dX0_next_131
            · have c_17 := (nI_eq (a := f) (b := 0) (by omega) (by omega)).mp c_17
              refine lv_aload_n hx hb dX0_next_120 rfl (lv_at hl 0 rfl) ?_
              refine va_get (D := (dC, dI)) (ci := 0) (v := .int (nI (Z 9))) (C := RX0) (T := TX0) (N := 16) hx hb hts inX0 hown hK hP 0 rfl rfl 9 (by decide) (hts _ fl_X0_32) (fun _ h9 => h9) rfl dX0_next_121 ?_
              refine lv_goto (tgt := 131) hx hb dX0_next_124 (by decide) ?_
              exact W.iret (v := nI (Z 9)) hx hb hr (fun t ht hW => ⟨⟨_, (Z, T, K), rfl, (by rw [nxL, if_neg (by omega), nxE_n (by omega), nxA_0 (by omega)] at hQ; exact hQ), by rw [ht]; exact hP, va_K.moved hW.alike hK, hD⟩, hS.F ht⟩) hS.2.2 dX0_next_131
          · have c_16 := (nI_eq (a := f) (b := 0) (by omega) (by omega)).mp c_16
            refine lv_aload_n hx hb dX0_next_111 rfl (lv_at hl 0 rfl) ?_
            refine lm_calli (va_runV (As := []) (rest := []) ⟨hx, hb, hml, hown, hts⟩ (c_closeLine l dC dI cA a0 a1 a2 H.size Z T K (show Z 10 < 2 ^ 29 by omega) (show Z 5 < 2 ^ 29 by omega)) (cwV 0 hts (gV (fun _ h => h) ml_X0_55 im_X0_closeLine se_X0_closeLine ini_X0 co_X0_closeLine) rfl rfl rfl pd_X0_closeLine ⟨Nat.le_of_ble_eq_true rfl, Nat.le_of_ble_eq_true rfl⟩) (lm_preS hK hP hD) rfl rfl hl.1 rfl (lv_room (Nat.le_of_ble_eq_true rfl)) dX0_next_112 ⟨Nat.zero_le _, Nat.zero_le _⟩) hD hS hA (fun r_20 u_19 H locs q_18 hP hD hS => ?_)
            obtain ⟨rfl, rfl⟩ := q_18
            have hP : va_P (dC, dI) vwCl (lmW cA a0 a1 a2 ((clZ Z).1, T, K)) H := hP
            have hD : va_D A (lmW cA a0 a1 a2 ((clZ Z).1, T, K)) := hD
            refine lv_istore_n (lv' := [(1, .int (nI ((clZ Z).2))), (0, .ref a0), (2, .int (nI e0)), (3, .int (nI t))]) hx hb dX0_next_115 rfl hl (by decide) rfl (fun ls hl => ?_)
            refine lv_iload_n hx hb dX0_next_116 rfl (lv_at hl 0 rfl) ?_
            refine lv_if_ne (tgt := 127) hx hb dX0_next_117 (by decide) (fun c_21 => ?_) (fun c_21 => ?_)
            · have c_21 := mt (nI_eq (a := (clZ Z).2) (b := 0) (by omega) (by omega)).mpr c_21
              refine lv_bipush (v := (-10)) hx hb dX0_next_127 (by decide) ?_
              refine lv_iload_n hx hb dX0_next_129 rfl (lv_at hl 0 rfl) ?_
              refine lv_isub hx hb dX0_next_130 ?_
              exact W.iret (v := ((-10)) - (nI ((clZ Z).2))) hx hb hr (fun t ht hW => ⟨⟨_, ((clZ Z).1, T, K), rfl, (by rw [nxL, if_neg (by omega), nxE_0 (by omega), nxA_n (by omega)] at hQ; exact hQ), by rw [ht]; exact hP, va_K.moved hW.alike hK, hD⟩, hS.F ht⟩) hS.2.2 dX0_next_131
            · have c_21 := (nI_eq (a := (clZ Z).2) (b := 0) (by omega) (by omega)).mp c_21
              refine lv_aload_n hx hb dX0_next_120 rfl (lv_at hl 1 rfl) ?_
              refine va_get (D := (dC, dI)) (ci := 0) (v := .int (nI ((clZ Z).1 9))) (C := RX0) (T := TX0) (N := 16) hx hb hts inX0 hown hK hP 0 rfl rfl 9 (by decide) (hts _ fl_X0_32) (fun _ h9 => h9) rfl dX0_next_121 ?_
              refine lv_goto (tgt := 131) hx hb dX0_next_124 (by decide) ?_
              exact W.iret (v := nI ((clZ Z).1 9)) hx hb hr (fun t ht hW => ⟨⟨_, ((clZ Z).1, T, K), rfl, (by rw [nxL, if_neg (by omega), nxE_0 (by omega), nxA_0 (by omega)] at hQ; exact hQ), by rw [ht]; exact hP, va_K.moved hW.alike hK, hD⟩, hS.F ht⟩) hS.2.2 dX0_next_131
        · have c_15 := (nI_eq (a := e0) (b := 0) (by omega) (by omega)).mp c_15
          refine lv_iload_n hx hb dX0_next_73 rfl (lv_at hl 1 rfl) ?_
          refine lv_if_ne (tgt := 107) hx hb dX0_next_74 (by decide) (fun c_22 => ?_) (fun c_22 => ?_)
          · have c_22 := mt (nI_eq (a := f) (b := 0) (by omega) (by omega)).mpr c_22
            refine lv_iload_n hx hb dX0_next_107 rfl (lv_at hl 1 rfl) ?_
            refine lv_if_ne (tgt := 116) hx hb dX0_next_108 (by decide) (fun c_23 => ?_) (fun c_23 => ?_)
            · have c_23 := mt (nI_eq (a := f) (b := 0) (by omega) (by omega)).mpr c_23
              refine lv_iload_n hx hb dX0_next_116 rfl (lv_at hl 1 rfl) ?_
              refine lv_if_ne (tgt := 127) hx hb dX0_next_117 (by decide) (fun c_24 => ?_) (fun c_24 => ?_)
              · have c_24 := mt (nI_eq (a := f) (b := 0) (by omega) (by omega)).mpr c_24
                refine lv_bipush (v := (-10)) hx hb dX0_next_127 (by decide) ?_
                refine lv_iload_n hx hb dX0_next_129 rfl (lv_at hl 1 rfl) ?_
                refine lv_isub hx hb dX0_next_130 ?_
                exact W.iret (v := ((-10)) - (nI f)) hx hb hr (fun t ht hW => ⟨⟨_, (Z, T, K), rfl, (by rw [nxL, if_neg (by omega), nxE_n (by omega), nxA_n (by omega)] at hQ; exact hQ), by rw [ht]; exact hP, va_K.moved hW.alike hK, hD⟩, hS.F ht⟩) hS.2.2 dX0_next_131
              · have c_24 := (nI_eq (a := f) (b := 0) (by omega) (by omega)).mp c_24
                refine lv_aload_n hx hb dX0_next_120 rfl (lv_at hl 0 rfl) ?_
                refine va_get (D := (dC, dI)) (ci := 0) (v := .int (nI (Z 9))) (C := RX0) (T := TX0) (N := 16) hx hb hts inX0 hown hK hP 0 rfl rfl 9 (by decide) (hts _ fl_X0_32) (fun _ h9 => h9) rfl dX0_next_121 ?_
                refine lv_goto (tgt := 131) hx hb dX0_next_124 (by decide) ?_
                exact W.iret (v := nI (Z 9)) hx hb hr (fun t ht hW => ⟨⟨_, (Z, T, K), rfl, (by rw [nxL, if_neg (by omega), nxE_n (by omega), nxA_0 (by omega)] at hQ; exact hQ), by rw [ht]; exact hP, va_K.moved hW.alike hK, hD⟩, hS.F ht⟩) hS.2.2 dX0_next_131
            · have c_23 := (nI_eq (a := f) (b := 0) (by omega) (by omega)).mp c_23
              refine lv_aload_n hx hb dX0_next_111 rfl (lv_at hl 0 rfl) ?_
              refine lm_calli (va_runV (As := []) (rest := []) ⟨hx, hb, hml, hown, hts⟩ (c_closeLine l dC dI cA a0 a1 a2 H.size Z T K (show Z 10 < 2 ^ 29 by omega) (show Z 5 < 2 ^ 29 by omega)) (cwV 0 hts (gV (fun _ h => h) ml_X0_55 im_X0_closeLine se_X0_closeLine ini_X0 co_X0_closeLine) rfl rfl rfl pd_X0_closeLine ⟨Nat.le_of_ble_eq_true rfl, Nat.le_of_ble_eq_true rfl⟩) (lm_preS hK hP hD) rfl rfl hl.1 rfl (lv_room (Nat.le_of_ble_eq_true rfl)) dX0_next_112 ⟨Nat.zero_le _, Nat.zero_le _⟩) hD hS hA (fun r_27 u_26 H locs q_25 hP hD hS => ?_)
              obtain ⟨rfl, rfl⟩ := q_25
              have hP : va_P (dC, dI) vwCl (lmW cA a0 a1 a2 ((clZ Z).1, T, K)) H := hP
              have hD : va_D A (lmW cA a0 a1 a2 ((clZ Z).1, T, K)) := hD
              refine lv_istore_n (lv' := [(1, .int (nI ((clZ Z).2))), (0, .ref a0), (2, .int (nI e0)), (3, .int (nI t))]) hx hb dX0_next_115 rfl hl (by decide) rfl (fun ls hl => ?_)
              refine lv_iload_n hx hb dX0_next_116 rfl (lv_at hl 0 rfl) ?_
              refine lv_if_ne (tgt := 127) hx hb dX0_next_117 (by decide) (fun c_28 => ?_) (fun c_28 => ?_)
              · have c_28 := mt (nI_eq (a := (clZ Z).2) (b := 0) (by omega) (by omega)).mpr c_28
                refine lv_bipush (v := (-10)) hx hb dX0_next_127 (by decide) ?_
                refine lv_iload_n hx hb dX0_next_129 rfl (lv_at hl 0 rfl) ?_
                refine lv_isub hx hb dX0_next_130 ?_
                exact W.iret (v := ((-10)) - (nI ((clZ Z).2))) hx hb hr (fun t ht hW => ⟨⟨_, ((clZ Z).1, T, K), rfl, (by rw [nxL, if_neg (by omega), nxE_0 (by omega), nxA_n (by omega)] at hQ; exact hQ), by rw [ht]; exact hP, va_K.moved hW.alike hK, hD⟩, hS.F ht⟩) hS.2.2 dX0_next_131
              · have c_28 := (nI_eq (a := (clZ Z).2) (b := 0) (by omega) (by omega)).mp c_28
                refine lv_aload_n hx hb dX0_next_120 rfl (lv_at hl 1 rfl) ?_
                refine va_get (D := (dC, dI)) (ci := 0) (v := .int (nI ((clZ Z).1 9))) (C := RX0) (T := TX0) (N := 16) hx hb hts inX0 hown hK hP 0 rfl rfl 9 (by decide) (hts _ fl_X0_32) (fun _ h9 => h9) rfl dX0_next_121 ?_
                refine lv_goto (tgt := 131) hx hb dX0_next_124 (by decide) ?_
                exact W.iret (v := nI ((clZ Z).1 9)) hx hb hr (fun t ht hW => ⟨⟨_, ((clZ Z).1, T, K), rfl, (by rw [nxL, if_neg (by omega), nxE_0 (by omega), nxA_0 (by omega)] at hQ; exact hQ), by rw [ht]; exact hP, va_K.moved hW.alike hK, hD⟩, hS.F ht⟩) hS.2.2 dX0_next_131
          · have c_22 := (nI_eq (a := f) (b := 0) (by omega) (by omega)).mp c_22
            refine lv_aload_n hx hb dX0_next_77 rfl (lv_at hl 0 rfl) ?_
            refine lv_aload_n hx hb dX0_next_78 rfl (lv_at hl 0 rfl) ?_
            refine va_get (D := (dC, dI)) (ci := 0) (v := .int (nI (Z 3))) (C := RX0) (T := TX0) (N := 16) hx hb hts inX0 hown hK hP 0 rfl rfl 3 (by decide) (hts _ fl_X0_39) (fun _ h9 => h9) rfl dX0_next_79 ?_
            refine vp_callSi (va_Run.run (va_runV (As := [.int (nI (Z 3))]) (rest := []) ⟨hx, hb, hml, hown, hts⟩ (c_byteAt l dC dI cA a0 a1 a2 Z T K (Z 3) (show Z 2 ≤ 32768 by omega) (show Z 3 < 2 ^ 31 by omega)) (cwV 1 hts (gV (fun _ h => h) ml_X0_28 im_X0_byteAt se_X0_byteAt ini_X0 co_X0_byteAt) rfl rfl rfl pd_X0_byteAt ⟨Nat.le_of_ble_eq_true rfl, Nat.le_of_ble_eq_true rfl⟩) (lm_preR hK hP) rfl rfl hl.1 rfl (lv_room (Nat.le_of_ble_eq_true rfl)) dX0_next_82 ⟨Nat.zero_le _, Nat.zero_le _⟩)) (fun r_29 (e_30 : r_29 = bI (gb T (Z 2) (Z 3))) => ?_)
            subst e_30
            have := gb_in T (Z 2) (Z 3)
            refine lv_bipush (v := nI 10) hx hb dX0_next_85 (by decide) ?_
            refine lv_icmp_ne (tgt := 94) hx hb dX0_next_87 (by decide) (fun c_31 => ?_) (fun c_31 => ?_)
            · have c_31 := mt (bI_eqN (by omega)).mpr c_31
              refine lv_iconst (v := nI 0) hx hb dX0_next_94 (by decide) ?_
              refine lv_istore_n (lv' := [(2, .int (nI 0)), (0, .ref a0), (1, .int (nI f)), (3, .int (nI t))]) hx hb dX0_next_95 rfl hl (by decide) rfl (fun ls hl => ?_)
              refine lv_aload_n hx hb dX0_next_96 rfl (lv_at hl 1 rfl) ?_
              have hwH := hw.kept (H1 := H) (fun a h1 h2 => hS.2.1 a h1 (fun z => h2 (hAA a z)))
              refine lm_calli (va_runV (As := []) (rest := []) ⟨hx, hb, hml, hown, hts⟩ (c_cutPiece l dC dI cA a0 a1 a2 dK dV A0 H.size Z T K (show Z 2 ≤ 32768 by omega) (show Z 4 < 65536 by omega) (show Z 10 < 2 ^ 29 by omega) (show Z 11 ≤ 1 by omega) (show Z 6 < 2 ^ 29 by omega) (show Z 14 < 2 ^ 29 by omega) (show Z 15 < 2 ^ 29 by omega) (show Z 3 < Z 2 by omega)) (cwV 0 hts (gV (fun _ h => h) ml_X0_51 im_X0_cutPiece se_X0_cutPiece ini_X0 co_X0_cutPiece) rfl rfl rfl pd_X0_cutPiece ⟨Nat.le_of_ble_eq_true rfl, Nat.le_of_ble_eq_true rfl⟩) (lm_preW hK hP hD hwH) rfl rfl hl.1 rfl (lv_room (Nat.le_of_ble_eq_true rfl)) dX0_next_97 ⟨Nat.zero_le _, Nat.zero_le _⟩) hD hS hA (fun r_34 u_33 H locs q_32 hP hD hS => ?_)
              obtain ⟨rfl, rfl⟩ := q_32
              have hP : va_P (dC, dI) vwCl (lmW cA a0 a1 a2 ((cpZ T Z K).1, T, (cpZ T Z K).2.1)) H := hP
              have hD : va_D A (lmW cA a0 a1 a2 ((cpZ T Z K).1, T, (cpZ T Z K).2.1)) := hD
              refine lv_istore_n (lv' := [(1, .int (nI ((cpZ T Z K).2.2))), (2, .int (nI 0)), (0, .ref a0), (3, .int (nI t))]) hx hb dX0_next_100 rfl hl (by decide) rfl (fun ls hl => ?_)
              refine lv_iinc (v := nI (t + 1)) (lv' := [(3, .int (nI (t + 1))), (1, .int (nI ((cpZ T Z K).2.2))), (2, .int (nI 0)), (0, .ref a0)]) hx hb dX0_next_101 hl (k := 3) rfl (by exact nI_add t 1) (by decide) rfl (fun ls hl => ?_)
              refine lv_goto (tgt := 52) hx hb dX0_next_104 (by decide) ?_
              have hc := cpZ_J (T := T) (K := K) hJ (by omega)
              have hc1 := hc.1
              have hck := hc.2.1
              unfold lmJ at hc1
              unfold lmK at hck
              have hc3 := hc.2.2.2
              rw [nxL, if_pos (by omega), if_neg (by omega)] at hQ
              refine ih (cpZ T Z K).1 (cpZ T Z K).2.1 0 (cpZ T Z K).2.2 (t + 1) ?_ hc.1 ?_ (by omega) (by omega) hc3 hQ _ _ hP hD hS _ (lv_sub hl [3, 1, 2, 0] rfl)
              · rcases Nat.eq_zero_or_pos (cpZ T Z K).2.2 with z | z
                · have := hc.2.2.1 z; omega
                · omega
              · rcases Nat.eq_zero_or_pos (cpZ T Z K).2.2 with z | z
                · have := hc.2.2.1 z; omega
                · omega
            · have c_31 := (bI_eqN (by omega)).mp c_31
              refine lv_iconst (v := nI 1) hx hb dX0_next_90 (by decide) ?_
              refine lv_goto (tgt := 95) hx hb dX0_next_91 (by decide) ?_
              refine lv_istore_n (lv' := [(2, .int (nI 1)), (0, .ref a0), (1, .int (nI f)), (3, .int (nI t))]) hx hb dX0_next_95 rfl hl (by decide) rfl (fun ls hl => ?_)
              refine lv_aload_n hx hb dX0_next_96 rfl (lv_at hl 1 rfl) ?_
              have hwH := hw.kept (H1 := H) (fun a h1 h2 => hS.2.1 a h1 (fun z => h2 (hAA a z)))
              refine lm_calli (va_runV (As := []) (rest := []) ⟨hx, hb, hml, hown, hts⟩ (c_cutPiece l dC dI cA a0 a1 a2 dK dV A0 H.size Z T K (show Z 2 ≤ 32768 by omega) (show Z 4 < 65536 by omega) (show Z 10 < 2 ^ 29 by omega) (show Z 11 ≤ 1 by omega) (show Z 6 < 2 ^ 29 by omega) (show Z 14 < 2 ^ 29 by omega) (show Z 15 < 2 ^ 29 by omega) (show Z 3 < Z 2 by omega)) (cwV 0 hts (gV (fun _ h => h) ml_X0_51 im_X0_cutPiece se_X0_cutPiece ini_X0 co_X0_cutPiece) rfl rfl rfl pd_X0_cutPiece ⟨Nat.le_of_ble_eq_true rfl, Nat.le_of_ble_eq_true rfl⟩) (lm_preW hK hP hD hwH) rfl rfl hl.1 rfl (lv_room (Nat.le_of_ble_eq_true rfl)) dX0_next_97 ⟨Nat.zero_le _, Nat.zero_le _⟩) hD hS hA (fun r_37 u_36 H locs q_35 hP hD hS => ?_)
              obtain ⟨rfl, rfl⟩ := q_35
              have hP : va_P (dC, dI) vwCl (lmW cA a0 a1 a2 ((cpZ T Z K).1, T, (cpZ T Z K).2.1)) H := hP
              have hD : va_D A (lmW cA a0 a1 a2 ((cpZ T Z K).1, T, (cpZ T Z K).2.1)) := hD
              refine lv_istore_n (lv' := [(1, .int (nI ((cpZ T Z K).2.2))), (2, .int (nI 1)), (0, .ref a0), (3, .int (nI t))]) hx hb dX0_next_100 rfl hl (by decide) rfl (fun ls hl => ?_)
              refine lv_iinc (v := nI (t + 1)) (lv' := [(3, .int (nI (t + 1))), (1, .int (nI ((cpZ T Z K).2.2))), (2, .int (nI 1)), (0, .ref a0)]) hx hb dX0_next_101 hl (k := 3) rfl (by exact nI_add t 1) (by decide) rfl (fun ls hl => ?_)
              refine lv_goto (tgt := 52) hx hb dX0_next_104 (by decide) ?_
              have hc := cpZ_J (T := T) (K := K) hJ (by omega)
              have hc1 := hc.1
              have hck := hc.2.1
              unfold lmJ at hc1
              unfold lmK at hck
              have hc3 := hc.2.2.2
              rw [nxL, if_pos (by omega), if_pos (by omega)] at hQ
              refine ih (cpZ T Z K).1 (cpZ T Z K).2.1 1 (cpZ T Z K).2.2 (t + 1) ?_ hc.1 ?_ (by omega) (by omega) hc3 hQ _ _ hP hD hS _ (lv_sub hl [3, 1, 2, 0] rfl)
              · rcases Nat.eq_zero_or_pos (cpZ T Z K).2.2 with z | z
                · have := hc.2.2.1 z; omega
                · omega
              · rcases Nat.eq_zero_or_pos (cpZ T Z K).2.2 with z | z
                · have := hc.2.2.1 z; omega
                · omega
set_option maxHeartbeats 4000000 in
set_option maxRecDepth 100000 in
theorem c_next (l : Launch) (dC : Nat → ClassId) (dI : Nat → Nat → Nat) (cA : ClassId) (a0 a1 a2 : Nat) (dK dV : Nat → Nat) (A0 : Nat → Prop) (sz : Nat) (Z : Nat → Nat) (T K : Nat → Int64)  (hI : lmI Z) (hAA : ∀ q, va_A (lmW cA a0 a1 a2 (Z, T, K)) sz q → A0 q) : Met l yX0_next wX0_next ({ frames := 7, cells := 0, slots := 0, locals := 159 }) (va_Pc [.ref a0] (fun U => lmP dC dI cA a0 a1 a2 sz (Z, T, K) U ∧ swd dK dV A0 U U.heap)) (va_Qi (fun (r : Int32) (u : lmU) => r = (nxZ T Z K).2.2 ∧ u = ((nxZ T Z K).1, T, (nxZ T Z K).2.1)) (lmB dC dI cA a0 a1 a2 (va_A (lmW cA a0 a1 a2 (Z, T, K)) sz)) (va_A (lmW cA a0 a1 a2 (Z, T, K)) sz)) 0 0 (va_A (lmW cA a0 a1 a2 (Z, T, K)) sz) := by
  refine Met.ofW (cc := cX0_next) (maxL := 4) (ret := (some .int)) (by decide) rfl ?_
  intro p e s m args below meth c s₁ B hml hv
  obtain ⟨rfl, ⟨hsz, hP, hK, hD0⟩, hw⟩ := hv
  have hx := B.exec
  have hb := B.bytes
  have hr := B.returns
  have hts : ∀ w ∈ bw, w.before _ s = true := fun w h => atoms_spec (ws := wX0_next) B.pre w (bc w h)
  have hown : s.vm.findClass RX0 = some m.cls := findClass_of_methodNamed B.named
  have hlocks := B.notSynchronized
  subst hsz
  have hD := hD0.self (sz := s.heap.size)
  generalize hAe : va_A (lmW cA a0 a1 a2 (Z, T, K)) s.heap.size = A at hD ⊢
  have hA : ∀ q : Nat, s.heap.size ≤ q → A q := fun q h => by rw [← hAe]; exact Or.inr h
  have hAA : ∀ q, A q → A0 q := fun q h => hAA q (by rw [hAe]; exact h)
  have hS : va_S A s.heap s.heap [] := va_S.rf
  have hl := lv_entry ([.ref a0]) (n := 4) (Nat.le_of_ble_eq_true rfl)
  rw [lg_entry_eq]
  generalize (lg_sl ([.ref a0]) ++ List.replicate (4 - (lg_sl ([.ref a0])).length) Slot.unset).toArray = ls at hl ⊢
  have hl : lv_has ls 4 [(0, .ref a0)] := hl
  unfold lmI at hI
  refine lv_aload_n hx hb dX0_next_0 rfl (lv_at hl 0 rfl) ?_
  refine lv_iconst (v := nI 0) hx hb dX0_next_1 (by decide) ?_
  refine va_put (D := (dC, dI)) (ci := 0) (v := .int (nI 0)) (ty := .int) (C := RX0) (T := TX0) (N := 16) hx hb hts inX0 tyX0 okX0 nmX0 hown hK hP hD hS 0 rfl rfl 9 (by decide) (hts _ fl_X0_32) (fun _ h9 => h9) rfl (by decide +kernel) rfl rfl (Nat.le_of_ble_eq_true rfl) dX0_next_2 (fun H locs hP hD hS => ?_)
  have hP : va_P (dC, dI) vwCl (lmW cA a0 a1 a2 ((zu Z 9 0), T, K)) H := hP
  have hD : va_D A (lmW cA a0 a1 a2 ((zu Z 9 0), T, K)) := hD
  refine lv_aload_n hx hb dX0_next_5 rfl (lv_at hl 0 rfl) ?_
  refine va_get (D := (dC, dI)) (ci := 0) (v := .int (nI (Z 8))) (C := RX0) (T := TX0) (N := 16) hx hb hts inX0 hown hK hP 0 rfl rfl 8 (by decide) (hts _ fl_X0_35) (fun _ h9 => h9) rfl dX0_next_6 ?_
  refine lv_if_eq (tgt := 15) hx hb dX0_next_9 (by decide) (fun c_1 => ?_) (fun c_1 => ?_)
  · have c_1 := (nI_eq (a := Z 8) (b := 0) (by omega) (by omega)).mp c_1
    refine lv_aload_n hx hb dX0_next_15 rfl (lv_at hl 0 rfl) ?_
    refine lv_aload_n hx hb dX0_next_16 rfl (lv_at hl 0 rfl) ?_
    refine lv_aload_n hx hb dX0_next_17 rfl (lv_at hl 0 rfl) ?_
    refine va_get (D := (dC, dI)) (ci := 0) (v := .int (nI (Z 3))) (C := RX0) (T := TX0) (N := 16) hx hb hts inX0 hown hK hP 0 rfl rfl 3 (by decide) (hts _ fl_X0_39) (fun _ h9 => h9) rfl dX0_next_18 ?_
    refine vp_callSi (va_Run.run (va_runV (As := [.int (nI (Z 3))]) (rest := [.ref a0]) ⟨hx, hb, hml, hown, hts⟩ (c_leftFrom l dC dI cA a0 a1 a2 (zu Z 9 0) T K (Z 3) (show Z 2 ≤ 32768 by omega) (show Z 3 < 2 ^ 30 by omega)) (cwV 1 hts (gV (fun _ h => h) ml_X0_42 im_X0_leftFrom se_X0_leftFrom ini_X0 co_X0_leftFrom) rfl rfl rfl pd_X0_leftFrom ⟨Nat.le_of_ble_eq_true rfl, Nat.le_of_ble_eq_true rfl⟩) (lm_preR hK hP) rfl rfl hl.1 rfl (lv_room (Nat.le_of_ble_eq_true rfl)) dX0_next_21 ⟨Nat.zero_le _, Nat.zero_le _⟩)) (fun r_2 (e_3 : r_2 = nI (lf T (Z 2) (Z 3))) => ?_)
    subst e_3
    have := lf_b T (Z 2) (Z 3)
    refine lm_calli (va_runV (As := [.int (nI (lf T (Z 2) (Z 3)))]) (rest := []) ⟨hx, hb, hml, hown, hts⟩ (c_pass l dC dI cA a0 a1 a2 H.size (zu Z 9 0) T K (lf T (Z 2) (Z 3)) (show Z 2 ≤ 32768 by omega) (show lf T (Z 2) (Z 3) < 2 ^ 29 by omega) (show Z 3 < 2 ^ 29 by omega)) (cwV 1 hts (gV (fun _ h => h) ml_X0_45 im_X0_pass se_X0_pass ini_X0 co_X0_pass) rfl rfl rfl pd_X0_pass ⟨Nat.le_of_ble_eq_true rfl, Nat.le_of_ble_eq_true rfl⟩) (lm_preS hK hP hD) rfl rfl hl.1 rfl (lv_room (Nat.le_of_ble_eq_true rfl)) dX0_next_24 ⟨Nat.zero_le _, Nat.zero_le _⟩) hD hS hA (fun r_6 u_5 H locs q_4 hP hD hS => ?_)
    obtain ⟨a_7, li_8, n_9, hp_10, rfl, rfl⟩ := q_4
    have hp_10 : pss T (Z 2) (lf T (Z 2) (Z 3)) (Z 3) (Z 4) 0 = (a_7, li_8, n_9) := hp_10
    have := pss_b hp_10
    have hP : va_P (dC, dI) vwCl (lmW cA a0 a1 a2 ((zu (zu (zu Z 3 a_7) 4 li_8) 9 0), T, K)) H := hP
    have hD : va_D A (lmW cA a0 a1 a2 ((zu (zu (zu Z 3 a_7) 4 li_8) 9 0), T, K)) := hD
    refine lv_pop hx hb dX0_next_27 rfl ?_
    refine lv_aload_n hx hb dX0_next_28 rfl (lv_at hl 0 rfl) ?_
    refine va_get (D := (dC, dI)) (ci := 0) (v := .int (nI a_7)) (C := RX0) (T := TX0) (N := 16) hx hb hts inX0 hown hK hP 0 rfl rfl 3 (by decide) (hts _ fl_X0_39) (fun _ h9 => h9) rfl dX0_next_29 ?_
    refine lv_aload_n hx hb dX0_next_32 rfl (lv_at hl 0 rfl) ?_
    refine va_get (D := (dC, dI)) (ci := 0) (v := .int (nI (Z 2))) (C := RX0) (T := TX0) (N := 16) hx hb hts inX0 hown hK hP 0 rfl rfl 2 (by decide) (hts _ fl_X0_19) (fun _ h9 => h9) rfl dX0_next_33 ?_
    refine lv_icmp_lt (tgt := 42) hx hb dX0_next_36 (by decide) (fun c_11 => ?_) (fun c_11 => ?_)
    · have c_11 := (nI_ltI (a := a_7) (b := Z 2) (by omega) (by omega)).mp c_11
      refine lv_aload_n hx hb dX0_next_42 rfl (lv_at hl 0 rfl) ?_
      refine lm_callv (va_runV (As := []) (rest := []) ⟨hx, hb, hml, hown, hts⟩ (c_openLine l dC dI cA a0 a1 a2 H.size (zu (zu (zu Z 3 a_7) 4 li_8) 9 0) T K  ) (cwV 0 hts (gV (fun _ h => h) ml_X0_48 im_X0_openLine se_X0_openLine ini_X0 co_X0_openLine) rfl rfl rfl pd_X0_openLine ⟨Nat.le_of_ble_eq_true rfl, Nat.le_of_ble_eq_true rfl⟩) (lm_preS hK hP hD) rfl rfl hl.1 rfl (lv_room (Nat.le_of_ble_eq_true rfl)) dX0_next_43 ⟨Nat.zero_le _, Nat.zero_le _⟩) hD hS hA (fun u_13 H locs q_12 hP hD hS => ?_)
      subst q_12
      have hP : va_P (dC, dI) vwCl (lmW cA a0 a1 a2 ((zu (zu (zu (zu (zu (zu (zu Z 3 a_7) 4 li_8) 9 0) 10 0) 11 1) 14 0) 15 0), T, K)) H := hP
      have hD : va_D A (lmW cA a0 a1 a2 ((zu (zu (zu (zu (zu (zu (zu Z 3 a_7) 4 li_8) 9 0) 10 0) 11 1) 14 0) 15 0), T, K)) := hD
      refine lv_iconst (v := nI 0) hx hb dX0_next_46 (by decide) ?_
      refine lv_istore_n (lv' := [(1, .int (nI 0)), (0, .ref a0)]) hx hb dX0_next_47 rfl hl (by decide) rfl (fun ls hl => ?_)
      refine lv_iconst (v := nI 0) hx hb dX0_next_48 (by decide) ?_
      refine lv_istore_n (lv' := [(2, .int (nI 0)), (1, .int (nI 0)), (0, .ref a0)]) hx hb dX0_next_49 rfl hl (by decide) rfl (fun ls hl => ?_)
      refine lv_iconst (v := nI 0) hx hb dX0_next_50 (by decide) ?_
      refine lv_istore_n (lv' := [(3, .int (nI 0)), (2, .int (nI 0)), (1, .int (nI 0)), (0, .ref a0)]) hx hb dX0_next_51 rfl hl (by decide) rfl (fun ls hl => ?_)
      have e2 : (zu (zu (zu (zu (zu (zu (zu Z 3 a_7) 4 li_8) 9 0) 10 0) 11 1) 14 0) 15 0) 2 = Z 2 := rfl
      have e3 : (zu (zu (zu (zu (zu (zu (zu Z 3 a_7) 4 li_8) 9 0) 10 0) 11 1) 14 0) 15 0) 3 = a_7 := rfl
      have e4 : (zu (zu (zu (zu (zu (zu (zu Z 3 a_7) 4 li_8) 9 0) 10 0) 11 1) 14 0) 15 0) 4 = li_8 := rfl
      have e5 : (zu (zu (zu (zu (zu (zu (zu Z 3 a_7) 4 li_8) 9 0) 10 0) 11 1) 14 0) 15 0) 5 = Z 5 := rfl
      have e6 : (zu (zu (zu (zu (zu (zu (zu Z 3 a_7) 4 li_8) 9 0) 10 0) 11 1) 14 0) 15 0) 6 = Z 6 := rfl
      have e10 : (zu (zu (zu (zu (zu (zu (zu Z 3 a_7) 4 li_8) 9 0) 10 0) 11 1) 14 0) 15 0) 10 = 0 := rfl
      have e11 : (zu (zu (zu (zu (zu (zu (zu Z 3 a_7) 4 li_8) 9 0) 10 0) 11 1) 14 0) 15 0) 11 = 1 := rfl
      have e14 : (zu (zu (zu (zu (zu (zu (zu Z 3 a_7) 4 li_8) 9 0) 10 0) 11 1) 14 0) 15 0) 14 = 0 := rfl
      have e15 : (zu (zu (zu (zu (zu (zu (zu Z 3 a_7) 4 li_8) 9 0) 10 0) 11 1) 14 0) 15 0) 15 = 0 := rfl
      refine k_next_52 hx hb hr hml hown hts hlocks hK hA hw hAA (fun r u => r = (nxZ T Z K).2.2 ∧ u = ((nxZ T Z K).1, T, (nxZ T Z K).2.1)) 40000 (zu (zu (zu (zu (zu (zu (zu Z 3 a_7) 4 li_8) 9 0) 10 0) 11 1) 14 0) 15 0) K 0 0 0 (by omega) (by unfold lmJ; omega) (by omega) (by omega) (by omega) (by omega) ?_ _ _ hP hD hS _ (lv_sub hl [3, 2, 1, 0] rfl)
      rw [nxZ, if_neg (by omega), nxY, hp_10, if_neg (by show ¬ Z 2 ≤ a_7; omega)]
      exact ⟨rfl, rfl⟩
    · have c_11 := mt (nI_ltI (a := a_7) (b := Z 2) (by omega) (by omega)).mpr c_11
      refine lv_bipush (v := (-2)) hx hb dX0_next_39 (by decide) ?_
      exact W.iret (v := (-2)) hx hb hr (fun t ht hW => ⟨⟨_, ((zu (zu (zu Z 3 a_7) 4 li_8) 9 0), T, K), rfl, (by rw [nxZ, if_neg (by omega), nxY, hp_10, if_pos (by show Z 2 ≤ a_7; omega)]; exact ⟨rfl, rfl⟩), by rw [ht]; exact hP, va_K.moved hW.alike hK, hD⟩, hS.F ht⟩) hS.2.2 dX0_next_41
  · have c_1 := mt (nI_eq (a := Z 8) (b := 0) (by omega) (by omega)).mpr c_1
    refine lv_bipush (v := (-2)) hx hb dX0_next_12 (by decide) ?_
    exact W.iret (v := (-2)) hx hb hr (fun t ht hW => ⟨⟨_, ((zu Z 9 0), T, K), rfl, (by rw [nxZ, if_pos (by omega)]; exact ⟨rfl, rfl⟩), by rw [ht]; exact hP, va_K.moved hW.alike hK, hD⟩, hS.F ht⟩) hS.2.2 dX0_next_14
end
section
/-- bytes g 0 .. g (i - 1) come behind place a -/
theorem fd_step {g : Nat → Nat} {a i b p : Nat} : (if p = a + i then g i else if a ≤ p ∧ p < a + i then g (p - a) else b) = if a ≤ p ∧ p < a + (i + 1) then g (p - a) else b := by
  by_cases h : p = a + i
  · rw [if_pos h, if_pos (by omega), show p - a = i by omega]
  · rw [if_neg h]
    by_cases h2 : a ≤ p ∧ p < a + i
    · rw [if_pos h2, if_pos (by omega)]
    · rw [if_neg h2, if_neg (by omega)]
set_option maxHeartbeats 4000000 in
set_option maxRecDepth 100000 in
theorem c_feed_bad (l : Launch) (dC : Nat → ClassId) (dI : Nat → Nat → Nat) (cA : ClassId) (a0 a1 a2 : Nat) (sz : Nat) (Z : Nat → Nat) (T K : Nat → Int64) (x : Nat) (n : Int32) (h : n < nI 1 ∨ nI 8 < n) : Met l yX0_feed wX0_feed ({ frames := 1, cells := 0, slots := 0, locals := 23 }) (va_Pc [.ref a0, .long (lN x), .int (n)] (lmP dC dI cA a0 a1 a2 sz (Z, T, K))) (va_Qi (fun (r : Int32) (u : lmU) => r = (-1) ∧ u = (Z, T, K)) (lmB dC dI cA a0 a1 a2 (va_A (lmW cA a0 a1 a2 (Z, T, K)) sz)) (va_A (lmW cA a0 a1 a2 (Z, T, K)) sz)) 0 0 (va_A (lmW cA a0 a1 a2 (Z, T, K)) sz) := by
  refine Met.ofW (cc := cX0_feed) (maxL := 5) (ret := (some .int)) (by decide) rfl ?_
  intro p e s m args below meth c s₁ B hml hv
  obtain ⟨rfl, hsz, hP, hK, hD0⟩ := hv
  have hx := B.exec
  have hb := B.bytes
  have hr := B.returns
  have hts : ∀ w ∈ bw, w.before _ s = true := fun w h => atoms_spec (ws := wX0_feed) B.pre w (bc w h)
  have hown : s.vm.findClass RX0 = some m.cls := findClass_of_methodNamed B.named
  have hlocks := B.notSynchronized
  subst hsz
  have hD := hD0.self (sz := s.heap.size)
  generalize hAe : va_A (lmW cA a0 a1 a2 (Z, T, K)) s.heap.size = A at hD ⊢
  have hA : ∀ q : Nat, s.heap.size ≤ q → A q := fun q h => by rw [← hAe]; exact Or.inr h
  have hS : va_S A s.heap s.heap [] := va_S.rf
  have hl := lv_entry ([.ref a0, .long (lN x), .int (n)]) (n := 5) (Nat.le_of_ble_eq_true rfl)
  rw [lg_entry_eq]
  generalize (lg_sl ([.ref a0, .long (lN x), .int (n)]) ++ List.replicate (5 - (lg_sl ([.ref a0, .long (lN x), .int (n)])).length) Slot.unset).toArray = ls at hl ⊢
  have hl : lv_has ls 5 [(0, .ref a0), (1, .long (lN x)), (3, .int (n))] := hl
  refine lv_iload_n hx hb dX0_feed_0 rfl (lv_at hl 2 rfl) ?_
  refine lv_iconst (v := nI 1) hx hb dX0_feed_1 (by decide) ?_
  refine lv_icmp_lt (tgt := 11) hx hb dX0_feed_2 (by decide) (fun c_1 => ?_) (fun c_1 => ?_)
  · refine lv_iconst (v := (-1)) hx hb dX0_feed_11 (by decide) ?_
    exact W.iret (v := (-1)) hx hb hr (fun t ht hW => ⟨⟨_, (Z, T, K), rfl, ⟨rfl, rfl⟩, by rw [ht]; exact hP, va_K.moved hW.alike hK, hD⟩, hS.F ht⟩) hS.2.2 dX0_feed_12
  · refine lv_iload_n hx hb dX0_feed_5 rfl (lv_at hl 2 rfl) ?_
    refine lv_bipush (v := nI 8) hx hb dX0_feed_6 (by decide) ?_
    refine lv_icmp_le (tgt := 13) hx hb dX0_feed_8 (by decide) (fun c_2 => ?_) (fun c_2 => ?_)
    · exact (h.elim c_1 (fun q => Int32.not_lt.mpr c_2 q)).elim
    · refine lv_iconst (v := (-1)) hx hb dX0_feed_11 (by decide) ?_
      exact W.iret (v := (-1)) hx hb hr (fun t ht hW => ⟨⟨_, (Z, T, K), rfl, ⟨rfl, rfl⟩, by rw [ht]; exact hP, va_K.moved hW.alike hK, hD⟩, hS.F ht⟩) hS.2.2 dX0_feed_12
set_option maxHeartbeats 4000000 in
set_option maxRecDepth 100000 in
theorem k_feed_30 {p : Program} {l : Launch} {e : Env} {s : State} {m : MethodId} {args : Array Value} {below : List Frame} {meth : Method} {c : Code} {A : Nat → Prop} (hx : p.tables.exec = Jvm.exec) (hb : c.code = cX0_feed) (hr : meth.sig.returnType = (some .int)) (hml : c.maxLocals = 5) (hown : s.vm.findClass RX0 = some m.cls) (hts : ∀ w ∈ bw, w.before args s = true) (hlocks : meth.locks = false) {dC : Nat → ClassId} {dI : Nat → Nat → Nat} {cA : ClassId} {a0 a1 a2 : Nat} {Z : Nat → Nat} {T K : Nat → Int64} (hK : va_K (dC, dI) vwCl [(cA, .long)] s) (hA : ∀ q, s.heap.size ≤ q → A q) (x k0 : Nat) (hx64 : x < 2 ^ 64) (hk8 : k0 ≤ 8) (hfit : Z 2 + k0 ≤ 32768) : ∀ (k : Nat) (T1 : Nat → Int64) (i : Nat), k0 - i < k → i ≤ k0 → (∀ q, byt T1 q = if Z 2 ≤ q ∧ q < Z 2 + i then x / 2 ^ (8 * (q - Z 2)) % 256 else byt T q) → ∀ (H : Heap) (locs : List Loc), va_P (dC, dI) vwCl (lmW cA a0 a1 a2 ((zu Z 2 (Z 2 + i)), T1, K)) H → va_D A (lmW cA a0 a1 a2 ((zu Z 2 (Z 2 + i)), T1, K)) → va_S A s.heap H locs → ∀ ls, lv_has ls 5 [(0, .ref a0), (1, .long (lN x)), (3, .int (nI k0)), (4, .int (nI i))] → W p l e (headSpec wX0_feed ({ frames := 1, cells := 0, slots := 0, locals := 23 })).room s m args below meth c H locs 0 0 (MQ below (va_Qi (fun (r : Int32) (u : lmU) => ∃ T1, r = nI (Z 2 + k0) ∧ u = (zu Z 2 (Z 2 + k0), T1, K) ∧ ∀ q, byt T1 q = if Z 2 ≤ q ∧ q < Z 2 + k0 then x / 2 ^ (8 * (q - Z 2)) % 256 else byt T q) (lmB dC dI cA a0 a1 a2 A) A) args s 0 0 A) (F0 m 30 ls []) := by
  intro k
  induction k with
  | zero => intro T1 i hk; exact absurd hk (by omega)
  | succ k ih =>
    intro T1 i hk hi hT H locs hP hD hS ls hl
    refine lv_iload hx hb dX0_feed_30 (lv_at hl 3 rfl) ?_
    refine lv_iload_n hx hb dX0_feed_32 rfl (lv_at hl 2 rfl) ?_
    refine lv_icmp_ge (tgt := 58) hx hb dX0_feed_33 (by decide) (fun c_1 => ?_) (fun c_1 => ?_)
    · have c_1 := (nI_leI (a := k0) (b := i) (by omega) (by omega)).mp c_1
      refine lv_aload_n hx hb dX0_feed_58 rfl (lv_at hl 0 rfl) ?_
      refine va_get (D := (dC, dI)) (ci := 0) (v := .int (nI (Z 2 + i))) (C := RX0) (T := TX0) (N := 16) hx hb hts inX0 hown hK hP 0 rfl rfl 2 (by decide) (hts _ fl_X0_19) (fun _ h9 => h9) rfl dX0_feed_59 ?_
      exact W.iret (v := nI (Z 2 + i)) hx hb hr (fun t ht hW => ⟨⟨_, ((zu Z 2 (Z 2 + i)), T1, K), rfl, ⟨T1, by rw [show k0 = i by omega], by rw [show k0 = i by omega], by rw [show k0 = i by omega]; exact hT⟩, by rw [ht]; exact hP, va_K.moved hW.alike hK, hD⟩, hS.F ht⟩) hS.2.2 dX0_feed_62
    · have c_1 := mt (nI_leI (a := k0) (b := i) (by omega) (by omega)).mpr c_1
      refine lv_aload_n hx hb dX0_feed_36 rfl (lv_at hl 0 rfl) ?_
      refine lv_lload_n hx hb dX0_feed_37 rfl (lv_at hl 1 rfl) ?_
      refine lv_bipush (v := nI 8) hx hb dX0_feed_38 (by decide) ?_
      refine lv_iload hx hb dX0_feed_40 (lv_at hl 3 rfl) ?_
      refine lv_imul hx hb dX0_feed_42 ?_
      refine lv_topi (fun x_2 e_3 => ?_)
      obtain rfl : x_2 = nI (8 * i) := e_3.trans (pk_mul 8 i)
      refine lv_lushr (v := lN (x / 2 ^ (8 * i))) hx hb dX0_feed_43 (wb_shr (by first | exact tn_lt _ | omega) (by omega)) ?_
      refine lv_l2i (v := nI (x / 2 ^ (8 * i))) hx hb dX0_feed_44 (lN_i _) ?_
      refine lv_sipush (v := nI 255) hx hb dX0_feed_45 (by decide) ?_
      refine lv_iand hx hb dX0_feed_48 ?_
      refine lv_topi (fun x_4 e_5 => ?_)
      obtain rfl : x_4 = nI ((x / 2 ^ (8 * i)) % 256) := e_5.trans (nI_mask (x / 2 ^ (8 * i)) 8 (by decide) (by decide))
      refine lm_callv (va_runV (As := [.int (nI ((x / 2 ^ (8 * i)) % 256))]) (rest := []) ⟨hx, hb, hml, hown, hts⟩ (c_append l dC dI cA a0 a1 a2 H.size (zu Z 2 (Z 2 + i)) T1 K ((x / 2 ^ (8 * i)) % 256) (show Z 2 + i < 32768 by omega) (show (x / 2 ^ (8 * i)) % 256 < 256 by omega)) (cwV 1 hts (gV (fun _ h => h) ml_X0_24 im_X0_append se_X0_append ini_X0 co_X0_append) rfl rfl rfl pd_X0_append ⟨Nat.le_of_ble_eq_true rfl, Nat.le_of_ble_eq_true rfl⟩) (lm_preS hK hP hD) rfl rfl hl.1 rfl (lv_room (Nat.le_of_ble_eq_true rfl)) dX0_feed_49 ⟨Nat.zero_le _, Nat.zero_le _⟩) hD hS hA (fun u_7 H locs q_6 hP hD hS => ?_)
      obtain ⟨T_9, rfl, hT_10⟩ := q_6
      have hT_10 : ∀ p, byt T_9 p = if p = Z 2 + i then (x / 2 ^ (8 * i)) % 256 else byt T1 p := hT_10
      have hP : va_P (dC, dI) vwCl (lmW cA a0 a1 a2 ((zu Z 2 (Z 2 + i + 1)), T_9, K)) H := hP
      have hD : va_D A (lmW cA a0 a1 a2 ((zu Z 2 (Z 2 + i + 1)), T_9, K)) := hD
      refine lv_iinc (v := nI (i + 1)) (lv' := [(4, .int (nI (i + 1))), (0, .ref a0), (1, .long (lN x)), (3, .int (nI k0))]) hx hb dX0_feed_52 hl (k := 3) rfl (by exact nI_add i 1) (by decide) rfl (fun ls hl => ?_)
      refine lv_goto (tgt := 30) hx hb dX0_feed_55 (by decide) ?_
      exact ih T_9 (i + 1) (by omega) (by omega) (fun q => by rw [hT_10 q, hT q]; exact fd_step (g := fun j => x / 2 ^ (8 * j) % 256)) _ _ hP hD hS _ (lv_sub hl [1, 2, 3, 0] rfl)
set_option maxHeartbeats 4000000 in
set_option maxRecDepth 100000 in
theorem c_feed_ok (l : Launch) (dC : Nat → ClassId) (dI : Nat → Nat → Nat) (cA : ClassId) (a0 a1 a2 : Nat) (sz : Nat) (Z : Nat → Nat) (T K : Nat → Int64) (x : Nat) (k0 : Nat) (hx64 : x < 2 ^ 64) (hk1 : 1 ≤ k0) (hk8 : k0 ≤ 8) (hfit : Z 2 + k0 ≤ 32768) : Met l yX0_feed wX0_feed ({ frames := 1, cells := 0, slots := 0, locals := 23 }) (va_Pc [.ref a0, .long (lN x), .int (nI k0)] (lmP dC dI cA a0 a1 a2 sz (Z, T, K))) (va_Qi (fun (r : Int32) (u : lmU) => ∃ T1, r = nI (Z 2 + k0) ∧ u = (zu Z 2 (Z 2 + k0), T1, K) ∧ ∀ q, byt T1 q = if Z 2 ≤ q ∧ q < Z 2 + k0 then x / 2 ^ (8 * (q - Z 2)) % 256 else byt T q) (lmB dC dI cA a0 a1 a2 (va_A (lmW cA a0 a1 a2 (Z, T, K)) sz)) (va_A (lmW cA a0 a1 a2 (Z, T, K)) sz)) 0 0 (va_A (lmW cA a0 a1 a2 (Z, T, K)) sz) := by
  refine Met.ofW (cc := cX0_feed) (maxL := 5) (ret := (some .int)) (by decide) rfl ?_
  intro p e s m args below meth c s₁ B hml hv
  obtain ⟨rfl, hsz, hP, hK, hD0⟩ := hv
  have hx := B.exec
  have hb := B.bytes
  have hr := B.returns
  have hts : ∀ w ∈ bw, w.before _ s = true := fun w h => atoms_spec (ws := wX0_feed) B.pre w (bc w h)
  have hown : s.vm.findClass RX0 = some m.cls := findClass_of_methodNamed B.named
  have hlocks := B.notSynchronized
  subst hsz
  have hD := hD0.self (sz := s.heap.size)
  generalize hAe : va_A (lmW cA a0 a1 a2 (Z, T, K)) s.heap.size = A at hD ⊢
  have hA : ∀ q : Nat, s.heap.size ≤ q → A q := fun q h => by rw [← hAe]; exact Or.inr h
  have hS : va_S A s.heap s.heap [] := va_S.rf
  have hl := lv_entry ([.ref a0, .long (lN x), .int (nI k0)]) (n := 5) (Nat.le_of_ble_eq_true rfl)
  rw [lg_entry_eq]
  generalize (lg_sl ([.ref a0, .long (lN x), .int (nI k0)]) ++ List.replicate (5 - (lg_sl ([.ref a0, .long (lN x), .int (nI k0)])).length) Slot.unset).toArray = ls at hl ⊢
  have hl : lv_has ls 5 [(0, .ref a0), (1, .long (lN x)), (3, .int (nI k0))] := hl
  refine lv_iload_n hx hb dX0_feed_0 rfl (lv_at hl 2 rfl) ?_
  refine lv_iconst (v := nI 1) hx hb dX0_feed_1 (by decide) ?_
  refine lv_icmp_lt (tgt := 11) hx hb dX0_feed_2 (by decide) (fun c_1 => ?_) (fun c_1 => ?_)
  · have c_1 := (nI_ltI (a := k0) (b := 1) (by omega) (by omega)).mp c_1
    omega
  · have c_1 := mt (nI_ltI (a := k0) (b := 1) (by omega) (by omega)).mpr c_1
    refine lv_iload_n hx hb dX0_feed_5 rfl (lv_at hl 2 rfl) ?_
    refine lv_bipush (v := nI 8) hx hb dX0_feed_6 (by decide) ?_
    refine lv_icmp_le (tgt := 13) hx hb dX0_feed_8 (by decide) (fun c_2 => ?_) (fun c_2 => ?_)
    · have c_2 := (nI_leI (a := k0) (b := 8) (by omega) (by omega)).mp c_2
      refine lv_aload_n hx hb dX0_feed_13 rfl (lv_at hl 0 rfl) ?_
      refine va_get (D := (dC, dI)) (ci := 0) (v := .int (nI (Z 2))) (C := RX0) (T := TX0) (N := 16) hx hb hts inX0 hown hK hP 0 rfl rfl 2 (by decide) (hts _ fl_X0_19) (fun _ h9 => h9) rfl dX0_feed_14 ?_
      refine lv_iload_n hx hb dX0_feed_17 rfl (lv_at hl 2 rfl) ?_
      refine lv_iadd hx hb dX0_feed_18 ?_
      refine lv_topi (fun x_3 e_4 => ?_)
      obtain rfl : x_3 = nI (Z 2 + k0) := e_4.trans (nI_add (Z 2) k0)
      refine lv_ldc (v := nI 32768) hx hb hown (hts _ cn_X0_23) dX0_feed_19 ?_
      refine lv_icmp_le (tgt := 27) hx hb dX0_feed_21 (by decide) (fun c_5 => ?_) (fun c_5 => ?_)
      · have c_5 := (nI_leI (a := Z 2 + k0) (b := 32768) (by omega) (by omega)).mp c_5
        refine lv_iconst (v := nI 0) hx hb dX0_feed_27 (by decide) ?_
        refine lv_istore (lv' := [(4, .int (nI 0)), (0, .ref a0), (1, .long (lN x)), (3, .int (nI k0))]) hx hb dX0_feed_28 hl (by decide) rfl (fun ls hl => ?_)
        exact k_feed_30 hx hb hr hml hown hts hlocks hK hA x k0 hx64 hk8 hfit (k0 + 1) T 0 (by omega) (by omega) (fun q => by rw [if_neg (by omega)]) _ _ hP hD hS _ (lv_sub hl [1, 2, 3, 0] rfl)
      · have c_5 := mt (nI_leI (a := Z 2 + k0) (b := 32768) (by omega) (by omega)).mpr c_5
        omega
    · have c_2 := mt (nI_leI (a := k0) (b := 8) (by omega) (by omega)).mpr c_2
      omega
set_option maxHeartbeats 4000000 in
set_option maxRecDepth 100000 in
theorem c_feed_full (l : Launch) (dC : Nat → ClassId) (dI : Nat → Nat → Nat) (cA : ClassId) (a0 a1 a2 : Nat) (sz : Nat) (Z : Nat → Nat) (T K : Nat → Int64) (x : Nat) (k0 : Nat) (hn : Z 2 ≤ 32768) (hk1 : 1 ≤ k0) (hk8 : k0 ≤ 8) (hfit : 32768 < Z 2 + k0) : Met l yX0_feed wX0_feed ({ frames := 1, cells := 0, slots := 0, locals := 23 }) (va_Pc [.ref a0, .long (lN x), .int (nI k0)] (lmP dC dI cA a0 a1 a2 sz (Z, T, K))) (va_Qi (fun (r : Int32) (u : lmU) => r = (-3) ∧ u = (Z, T, K)) (lmB dC dI cA a0 a1 a2 (va_A (lmW cA a0 a1 a2 (Z, T, K)) sz)) (va_A (lmW cA a0 a1 a2 (Z, T, K)) sz)) 0 0 (va_A (lmW cA a0 a1 a2 (Z, T, K)) sz) := by
  refine Met.ofW (cc := cX0_feed) (maxL := 5) (ret := (some .int)) (by decide) rfl ?_
  intro p e s m args below meth c s₁ B hml hv
  obtain ⟨rfl, hsz, hP, hK, hD0⟩ := hv
  have hx := B.exec
  have hb := B.bytes
  have hr := B.returns
  have hts : ∀ w ∈ bw, w.before _ s = true := fun w h => atoms_spec (ws := wX0_feed) B.pre w (bc w h)
  have hown : s.vm.findClass RX0 = some m.cls := findClass_of_methodNamed B.named
  have hlocks := B.notSynchronized
  subst hsz
  have hD := hD0.self (sz := s.heap.size)
  generalize hAe : va_A (lmW cA a0 a1 a2 (Z, T, K)) s.heap.size = A at hD ⊢
  have hA : ∀ q : Nat, s.heap.size ≤ q → A q := fun q h => by rw [← hAe]; exact Or.inr h
  have hS : va_S A s.heap s.heap [] := va_S.rf
  have hl := lv_entry ([.ref a0, .long (lN x), .int (nI k0)]) (n := 5) (Nat.le_of_ble_eq_true rfl)
  rw [lg_entry_eq]
  generalize (lg_sl ([.ref a0, .long (lN x), .int (nI k0)]) ++ List.replicate (5 - (lg_sl ([.ref a0, .long (lN x), .int (nI k0)])).length) Slot.unset).toArray = ls at hl ⊢
  have hl : lv_has ls 5 [(0, .ref a0), (1, .long (lN x)), (3, .int (nI k0))] := hl
  refine lv_iload_n hx hb dX0_feed_0 rfl (lv_at hl 2 rfl) ?_
  refine lv_iconst (v := nI 1) hx hb dX0_feed_1 (by decide) ?_
  refine lv_icmp_lt (tgt := 11) hx hb dX0_feed_2 (by decide) (fun c_1 => ?_) (fun c_1 => ?_)
  · have c_1 := (nI_ltI (a := k0) (b := 1) (by omega) (by omega)).mp c_1
    omega
  · have c_1 := mt (nI_ltI (a := k0) (b := 1) (by omega) (by omega)).mpr c_1
    refine lv_iload_n hx hb dX0_feed_5 rfl (lv_at hl 2 rfl) ?_
    refine lv_bipush (v := nI 8) hx hb dX0_feed_6 (by decide) ?_
    refine lv_icmp_le (tgt := 13) hx hb dX0_feed_8 (by decide) (fun c_2 => ?_) (fun c_2 => ?_)
    · have c_2 := (nI_leI (a := k0) (b := 8) (by omega) (by omega)).mp c_2
      refine lv_aload_n hx hb dX0_feed_13 rfl (lv_at hl 0 rfl) ?_
      refine va_get (D := (dC, dI)) (ci := 0) (v := .int (nI (Z 2))) (C := RX0) (T := TX0) (N := 16) hx hb hts inX0 hown hK hP 0 rfl rfl 2 (by decide) (hts _ fl_X0_19) (fun _ h9 => h9) rfl dX0_feed_14 ?_
      refine lv_iload_n hx hb dX0_feed_17 rfl (lv_at hl 2 rfl) ?_
      refine lv_iadd hx hb dX0_feed_18 ?_
      refine lv_topi (fun x_3 e_4 => ?_)
      obtain rfl : x_3 = nI (Z 2 + k0) := e_4.trans (nI_add (Z 2) k0)
      refine lv_ldc (v := nI 32768) hx hb hown (hts _ cn_X0_23) dX0_feed_19 ?_
      refine lv_icmp_le (tgt := 27) hx hb dX0_feed_21 (by decide) (fun c_5 => ?_) (fun c_5 => ?_)
      · have c_5 := (nI_leI (a := Z 2 + k0) (b := 32768) (by omega) (by omega)).mp c_5
        omega
      · have c_5 := mt (nI_leI (a := Z 2 + k0) (b := 32768) (by omega) (by omega)).mpr c_5
        refine lv_bipush (v := (-3)) hx hb dX0_feed_24 (by decide) ?_
        exact W.iret (v := (-3)) hx hb hr (fun t ht hW => ⟨⟨_, (Z, T, K), rfl, ⟨rfl, rfl⟩, by rw [ht]; exact hP, va_K.moved hW.alike hK, hD⟩, hS.F ht⟩) hS.2.2 dX0_feed_26
    · have c_2 := mt (nI_leI (a := k0) (b := 8) (by omega) (by omega)).mpr c_2
      omega
set_option maxHeartbeats 4000000 in
set_option maxRecDepth 100000 in
theorem c_again_neg (l : Launch) (dC : Nat → ClassId) (dI : Nat → Nat → Nat) (cA : ClassId) (a0 a1 a2 : Nat) (sz : Nat) (Z : Nat → Nat) (T K : Nat → Int64) (f : Int32) (n : Int32) (h : f < 0) : Met l yX0_again wX0_again ({ frames := 1, cells := 0, slots := 0, locals := 23 }) (va_Pc [.ref a0, .int (f), .int (n)] (lmP dC dI cA a0 a1 a2 sz (Z, T, K))) (va_Qi (fun (r : Int32) (u : lmU) => r = (-1) ∧ u = (Z, T, K)) (lmB dC dI cA a0 a1 a2 (va_A (lmW cA a0 a1 a2 (Z, T, K)) sz)) (va_A (lmW cA a0 a1 a2 (Z, T, K)) sz)) 0 0 (va_A (lmW cA a0 a1 a2 (Z, T, K)) sz) := by
  refine Met.ofW (cc := cX0_again) (maxL := 4) (ret := (some .int)) (by decide) rfl ?_
  intro p e s m args below meth c s₁ B hml hv
  obtain ⟨rfl, hsz, hP, hK, hD0⟩ := hv
  have hx := B.exec
  have hb := B.bytes
  have hr := B.returns
  have hts : ∀ w ∈ bw, w.before _ s = true := fun w h => atoms_spec (ws := wX0_again) B.pre w (bc w h)
  have hown : s.vm.findClass RX0 = some m.cls := findClass_of_methodNamed B.named
  have hlocks := B.notSynchronized
  subst hsz
  have hD := hD0.self (sz := s.heap.size)
  generalize hAe : va_A (lmW cA a0 a1 a2 (Z, T, K)) s.heap.size = A at hD ⊢
  have hA : ∀ q : Nat, s.heap.size ≤ q → A q := fun q h => by rw [← hAe]; exact Or.inr h
  have hS : va_S A s.heap s.heap [] := va_S.rf
  have hl := lv_entry ([.ref a0, .int (f), .int (n)]) (n := 4) (Nat.le_of_ble_eq_true rfl)
  rw [lg_entry_eq]
  generalize (lg_sl ([.ref a0, .int (f), .int (n)]) ++ List.replicate (4 - (lg_sl ([.ref a0, .int (f), .int (n)])).length) Slot.unset).toArray = ls at hl ⊢
  have hl : lv_has ls 4 [(0, .ref a0), (1, .int (f)), (2, .int (n))] := hl
  refine lv_iload_n hx hb dX0_again_0 rfl (lv_at hl 1 rfl) ?_
  refine lv_if_lt (tgt := 27) hx hb dX0_again_1 (by decide) (fun c_1 => ?_) (fun c_1 => ?_)
  · refine lv_iconst (v := (-1)) hx hb dX0_again_27 (by decide) ?_
    exact W.iret (v := (-1)) hx hb hr (fun t ht hW => ⟨⟨_, (Z, T, K), rfl, ⟨rfl, rfl⟩, by rw [ht]; exact hP, va_K.moved hW.alike hK, hD⟩, hS.F ht⟩) hS.2.2 dX0_again_28
  · exact absurd h c_1
set_option maxHeartbeats 4000000 in
set_option maxRecDepth 100000 in
theorem c_again_cnt (l : Launch) (dC : Nat → ClassId) (dI : Nat → Nat → Nat) (cA : ClassId) (a0 a1 a2 : Nat) (sz : Nat) (Z : Nat → Nat) (T K : Nat → Int64) (f : Nat) (n : Int32) (hf : f < 2 ^ 31) (h : n < nI 1 ∨ nI (Z 2) < n) : Met l yX0_again wX0_again ({ frames := 1, cells := 0, slots := 0, locals := 23 }) (va_Pc [.ref a0, .int (nI f), .int (n)] (lmP dC dI cA a0 a1 a2 sz (Z, T, K))) (va_Qi (fun (r : Int32) (u : lmU) => r = (-1) ∧ u = (Z, T, K)) (lmB dC dI cA a0 a1 a2 (va_A (lmW cA a0 a1 a2 (Z, T, K)) sz)) (va_A (lmW cA a0 a1 a2 (Z, T, K)) sz)) 0 0 (va_A (lmW cA a0 a1 a2 (Z, T, K)) sz) := by
  refine Met.ofW (cc := cX0_again) (maxL := 4) (ret := (some .int)) (by decide) rfl ?_
  intro p e s m args below meth c s₁ B hml hv
  obtain ⟨rfl, hsz, hP, hK, hD0⟩ := hv
  have hx := B.exec
  have hb := B.bytes
  have hr := B.returns
  have hts : ∀ w ∈ bw, w.before _ s = true := fun w h => atoms_spec (ws := wX0_again) B.pre w (bc w h)
  have hown : s.vm.findClass RX0 = some m.cls := findClass_of_methodNamed B.named
  have hlocks := B.notSynchronized
  subst hsz
  have hD := hD0.self (sz := s.heap.size)
  generalize hAe : va_A (lmW cA a0 a1 a2 (Z, T, K)) s.heap.size = A at hD ⊢
  have hA : ∀ q : Nat, s.heap.size ≤ q → A q := fun q h => by rw [← hAe]; exact Or.inr h
  have hS : va_S A s.heap s.heap [] := va_S.rf
  have hl := lv_entry ([.ref a0, .int (nI f), .int (n)]) (n := 4) (Nat.le_of_ble_eq_true rfl)
  rw [lg_entry_eq]
  generalize (lg_sl ([.ref a0, .int (nI f), .int (n)]) ++ List.replicate (4 - (lg_sl ([.ref a0, .int (nI f), .int (n)])).length) Slot.unset).toArray = ls at hl ⊢
  have hl : lv_has ls 4 [(0, .ref a0), (1, .int (nI f)), (2, .int (n))] := hl
  refine lv_iload_n hx hb dX0_again_0 rfl (lv_at hl 1 rfl) ?_
  refine lv_if_lt (tgt := 27) hx hb dX0_again_1 (by decide) (fun c_1 => ?_) (fun c_1 => ?_)
  · have c_1 := (nI_ltI (a := f) (b := 0) (by omega) (by omega)).mp c_1
    omega
  · have c_1 := mt (nI_ltI (a := f) (b := 0) (by omega) (by omega)).mpr c_1
    refine lv_iload_n hx hb dX0_again_4 rfl (lv_at hl 2 rfl) ?_
    refine lv_iconst (v := nI 1) hx hb dX0_again_5 (by decide) ?_
    refine lv_icmp_lt (tgt := 27) hx hb dX0_again_6 (by decide) (fun c_2 => ?_) (fun c_2 => ?_)
    · refine lv_iconst (v := (-1)) hx hb dX0_again_27 (by decide) ?_
      exact W.iret (v := (-1)) hx hb hr (fun t ht hW => ⟨⟨_, (Z, T, K), rfl, ⟨rfl, rfl⟩, by rw [ht]; exact hP, va_K.moved hW.alike hK, hD⟩, hS.F ht⟩) hS.2.2 dX0_again_28
    · refine lv_iload_n hx hb dX0_again_9 rfl (lv_at hl 2 rfl) ?_
      refine lv_aload_n hx hb dX0_again_10 rfl (lv_at hl 0 rfl) ?_
      refine va_get (D := (dC, dI)) (ci := 0) (v := .int (nI (Z 2))) (C := RX0) (T := TX0) (N := 16) hx hb hts inX0 hown hK hP 0 rfl rfl 2 (by decide) (hts _ fl_X0_19) (fun _ h9 => h9) rfl dX0_again_11 ?_
      refine lv_icmp_gt (tgt := 27) hx hb dX0_again_14 (by decide) (fun c_3 => ?_) (fun c_3 => ?_)
      · refine lv_iconst (v := (-1)) hx hb dX0_again_27 (by decide) ?_
        exact W.iret (v := (-1)) hx hb hr (fun t ht hW => ⟨⟨_, (Z, T, K), rfl, ⟨rfl, rfl⟩, by rw [ht]; exact hP, va_K.moved hW.alike hK, hD⟩, hS.F ht⟩) hS.2.2 dX0_again_28
      · exact (h.elim c_2 c_3).elim
set_option maxHeartbeats 4000000 in
set_option maxRecDepth 100000 in
theorem c_again_far (l : Launch) (dC : Nat → ClassId) (dI : Nat → Nat → Nat) (cA : ClassId) (a0 a1 a2 : Nat) (sz : Nat) (Z : Nat → Nat) (T K : Nat → Int64) (f : Nat) (k0 : Nat) (hn : Z 2 ≤ 32768) (hf : f < 2 ^ 31) (hk1 : 1 ≤ k0) (hk8 : k0 ≤ Z 2) (h : Z 2 < f + k0) : Met l yX0_again wX0_again ({ frames := 1, cells := 0, slots := 0, locals := 23 }) (va_Pc [.ref a0, .int (nI f), .int (nI k0)] (lmP dC dI cA a0 a1 a2 sz (Z, T, K))) (va_Qi (fun (r : Int32) (u : lmU) => r = (-1) ∧ u = (Z, T, K)) (lmB dC dI cA a0 a1 a2 (va_A (lmW cA a0 a1 a2 (Z, T, K)) sz)) (va_A (lmW cA a0 a1 a2 (Z, T, K)) sz)) 0 0 (va_A (lmW cA a0 a1 a2 (Z, T, K)) sz) := by
  refine Met.ofW (cc := cX0_again) (maxL := 4) (ret := (some .int)) (by decide) rfl ?_
  intro p e s m args below meth c s₁ B hml hv
  obtain ⟨rfl, hsz, hP, hK, hD0⟩ := hv
  have hx := B.exec
  have hb := B.bytes
  have hr := B.returns
  have hts : ∀ w ∈ bw, w.before _ s = true := fun w h => atoms_spec (ws := wX0_again) B.pre w (bc w h)
  have hown : s.vm.findClass RX0 = some m.cls := findClass_of_methodNamed B.named
  have hlocks := B.notSynchronized
  subst hsz
  have hD := hD0.self (sz := s.heap.size)
  generalize hAe : va_A (lmW cA a0 a1 a2 (Z, T, K)) s.heap.size = A at hD ⊢
  have hA : ∀ q : Nat, s.heap.size ≤ q → A q := fun q h => by rw [← hAe]; exact Or.inr h
  have hS : va_S A s.heap s.heap [] := va_S.rf
  have hl := lv_entry ([.ref a0, .int (nI f), .int (nI k0)]) (n := 4) (Nat.le_of_ble_eq_true rfl)
  rw [lg_entry_eq]
  generalize (lg_sl ([.ref a0, .int (nI f), .int (nI k0)]) ++ List.replicate (4 - (lg_sl ([.ref a0, .int (nI f), .int (nI k0)])).length) Slot.unset).toArray = ls at hl ⊢
  have hl : lv_has ls 4 [(0, .ref a0), (1, .int (nI f)), (2, .int (nI k0))] := hl
  refine lv_iload_n hx hb dX0_again_0 rfl (lv_at hl 1 rfl) ?_
  refine lv_if_lt (tgt := 27) hx hb dX0_again_1 (by decide) (fun c_1 => ?_) (fun c_1 => ?_)
  · have c_1 := (nI_ltI (a := f) (b := 0) (by omega) (by omega)).mp c_1
    omega
  · have c_1 := mt (nI_ltI (a := f) (b := 0) (by omega) (by omega)).mpr c_1
    refine lv_iload_n hx hb dX0_again_4 rfl (lv_at hl 2 rfl) ?_
    refine lv_iconst (v := nI 1) hx hb dX0_again_5 (by decide) ?_
    refine lv_icmp_lt (tgt := 27) hx hb dX0_again_6 (by decide) (fun c_2 => ?_) (fun c_2 => ?_)
    · have c_2 := (nI_ltI (a := k0) (b := 1) (by omega) (by omega)).mp c_2
      omega
    · have c_2 := mt (nI_ltI (a := k0) (b := 1) (by omega) (by omega)).mpr c_2
      refine lv_iload_n hx hb dX0_again_9 rfl (lv_at hl 2 rfl) ?_
      refine lv_aload_n hx hb dX0_again_10 rfl (lv_at hl 0 rfl) ?_
      refine va_get (D := (dC, dI)) (ci := 0) (v := .int (nI (Z 2))) (C := RX0) (T := TX0) (N := 16) hx hb hts inX0 hown hK hP 0 rfl rfl 2 (by decide) (hts _ fl_X0_19) (fun _ h9 => h9) rfl dX0_again_11 ?_
      refine lv_icmp_gt (tgt := 27) hx hb dX0_again_14 (by decide) (fun c_3 => ?_) (fun c_3 => ?_)
      · have c_3 := (nI_ltI (a := Z 2) (b := k0) (by omega) (by omega)).mp c_3
        omega
      · have c_3 := mt (nI_ltI (a := Z 2) (b := k0) (by omega) (by omega)).mpr c_3
        refine lv_iload_n hx hb dX0_again_17 rfl (lv_at hl 1 rfl) ?_
        refine lv_aload_n hx hb dX0_again_18 rfl (lv_at hl 0 rfl) ?_
        refine va_get (D := (dC, dI)) (ci := 0) (v := .int (nI (Z 2))) (C := RX0) (T := TX0) (N := 16) hx hb hts inX0 hown hK hP 0 rfl rfl 2 (by decide) (hts _ fl_X0_19) (fun _ h9 => h9) rfl dX0_again_19 ?_
        refine lv_iload_n hx hb dX0_again_22 rfl (lv_at hl 2 rfl) ?_
        refine lv_isub hx hb dX0_again_23 ?_
        refine lv_topi (fun x_4 e_5 => ?_)
        obtain rfl : x_4 = nI (Z 2 - k0) := e_5.trans (pk_sub (by omega))
        refine lv_icmp_le (tgt := 29) hx hb dX0_again_24 (by decide) (fun c_6 => ?_) (fun c_6 => ?_)
        · have c_6 := (nI_leI (a := f) (b := Z 2 - k0) (by omega) (by omega)).mp c_6
          omega
        · have c_6 := mt (nI_leI (a := f) (b := Z 2 - k0) (by omega) (by omega)).mpr c_6
          refine lv_iconst (v := (-1)) hx hb dX0_again_27 (by decide) ?_
          exact W.iret (v := (-1)) hx hb hr (fun t ht hW => ⟨⟨_, (Z, T, K), rfl, ⟨rfl, rfl⟩, by rw [ht]; exact hP, va_K.moved hW.alike hK, hD⟩, hS.F ht⟩) hS.2.2 dX0_again_28
set_option maxHeartbeats 4000000 in
set_option maxRecDepth 100000 in
theorem c_again_full (l : Launch) (dC : Nat → ClassId) (dI : Nat → Nat → Nat) (cA : ClassId) (a0 a1 a2 : Nat) (sz : Nat) (Z : Nat → Nat) (T K : Nat → Int64) (f : Nat) (k0 : Nat) (hn : Z 2 ≤ 32768) (hk1 : 1 ≤ k0) (h : f + k0 ≤ Z 2) (hfit : 32768 < Z 2 + k0) : Met l yX0_again wX0_again ({ frames := 1, cells := 0, slots := 0, locals := 23 }) (va_Pc [.ref a0, .int (nI f), .int (nI k0)] (lmP dC dI cA a0 a1 a2 sz (Z, T, K))) (va_Qi (fun (r : Int32) (u : lmU) => r = (-3) ∧ u = (Z, T, K)) (lmB dC dI cA a0 a1 a2 (va_A (lmW cA a0 a1 a2 (Z, T, K)) sz)) (va_A (lmW cA a0 a1 a2 (Z, T, K)) sz)) 0 0 (va_A (lmW cA a0 a1 a2 (Z, T, K)) sz) := by
  refine Met.ofW (cc := cX0_again) (maxL := 4) (ret := (some .int)) (by decide) rfl ?_
  intro p e s m args below meth c s₁ B hml hv
  obtain ⟨rfl, hsz, hP, hK, hD0⟩ := hv
  have hx := B.exec
  have hb := B.bytes
  have hr := B.returns
  have hts : ∀ w ∈ bw, w.before _ s = true := fun w h => atoms_spec (ws := wX0_again) B.pre w (bc w h)
  have hown : s.vm.findClass RX0 = some m.cls := findClass_of_methodNamed B.named
  have hlocks := B.notSynchronized
  subst hsz
  have hD := hD0.self (sz := s.heap.size)
  generalize hAe : va_A (lmW cA a0 a1 a2 (Z, T, K)) s.heap.size = A at hD ⊢
  have hA : ∀ q : Nat, s.heap.size ≤ q → A q := fun q h => by rw [← hAe]; exact Or.inr h
  have hS : va_S A s.heap s.heap [] := va_S.rf
  have hl := lv_entry ([.ref a0, .int (nI f), .int (nI k0)]) (n := 4) (Nat.le_of_ble_eq_true rfl)
  rw [lg_entry_eq]
  generalize (lg_sl ([.ref a0, .int (nI f), .int (nI k0)]) ++ List.replicate (4 - (lg_sl ([.ref a0, .int (nI f), .int (nI k0)])).length) Slot.unset).toArray = ls at hl ⊢
  have hl : lv_has ls 4 [(0, .ref a0), (1, .int (nI f)), (2, .int (nI k0))] := hl
  refine lv_iload_n hx hb dX0_again_0 rfl (lv_at hl 1 rfl) ?_
  refine lv_if_lt (tgt := 27) hx hb dX0_again_1 (by decide) (fun c_1 => ?_) (fun c_1 => ?_)
  · have c_1 := (nI_ltI (a := f) (b := 0) (by omega) (by omega)).mp c_1
    omega
  · have c_1 := mt (nI_ltI (a := f) (b := 0) (by omega) (by omega)).mpr c_1
    refine lv_iload_n hx hb dX0_again_4 rfl (lv_at hl 2 rfl) ?_
    refine lv_iconst (v := nI 1) hx hb dX0_again_5 (by decide) ?_
    refine lv_icmp_lt (tgt := 27) hx hb dX0_again_6 (by decide) (fun c_2 => ?_) (fun c_2 => ?_)
    · have c_2 := (nI_ltI (a := k0) (b := 1) (by omega) (by omega)).mp c_2
      omega
    · have c_2 := mt (nI_ltI (a := k0) (b := 1) (by omega) (by omega)).mpr c_2
      refine lv_iload_n hx hb dX0_again_9 rfl (lv_at hl 2 rfl) ?_
      refine lv_aload_n hx hb dX0_again_10 rfl (lv_at hl 0 rfl) ?_
      refine va_get (D := (dC, dI)) (ci := 0) (v := .int (nI (Z 2))) (C := RX0) (T := TX0) (N := 16) hx hb hts inX0 hown hK hP 0 rfl rfl 2 (by decide) (hts _ fl_X0_19) (fun _ h9 => h9) rfl dX0_again_11 ?_
      refine lv_icmp_gt (tgt := 27) hx hb dX0_again_14 (by decide) (fun c_3 => ?_) (fun c_3 => ?_)
      · have c_3 := (nI_ltI (a := Z 2) (b := k0) (by omega) (by omega)).mp c_3
        omega
      · have c_3 := mt (nI_ltI (a := Z 2) (b := k0) (by omega) (by omega)).mpr c_3
        refine lv_iload_n hx hb dX0_again_17 rfl (lv_at hl 1 rfl) ?_
        refine lv_aload_n hx hb dX0_again_18 rfl (lv_at hl 0 rfl) ?_
        refine va_get (D := (dC, dI)) (ci := 0) (v := .int (nI (Z 2))) (C := RX0) (T := TX0) (N := 16) hx hb hts inX0 hown hK hP 0 rfl rfl 2 (by decide) (hts _ fl_X0_19) (fun _ h9 => h9) rfl dX0_again_19 ?_
        refine lv_iload_n hx hb dX0_again_22 rfl (lv_at hl 2 rfl) ?_
        refine lv_isub hx hb dX0_again_23 ?_
        refine lv_topi (fun x_4 e_5 => ?_)
        obtain rfl : x_4 = nI (Z 2 - k0) := e_5.trans (pk_sub (by omega))
        refine lv_icmp_le (tgt := 29) hx hb dX0_again_24 (by decide) (fun c_6 => ?_) (fun c_6 => ?_)
        · have c_6 := (nI_leI (a := f) (b := Z 2 - k0) (by omega) (by omega)).mp c_6
          refine lv_aload_n hx hb dX0_again_29 rfl (lv_at hl 0 rfl) ?_
          refine va_get (D := (dC, dI)) (ci := 0) (v := .int (nI (Z 2))) (C := RX0) (T := TX0) (N := 16) hx hb hts inX0 hown hK hP 0 rfl rfl 2 (by decide) (hts _ fl_X0_19) (fun _ h9 => h9) rfl dX0_again_30 ?_
          refine lv_iload_n hx hb dX0_again_33 rfl (lv_at hl 2 rfl) ?_
          refine lv_iadd hx hb dX0_again_34 ?_
          refine lv_topi (fun x_7 e_8 => ?_)
          obtain rfl : x_7 = nI (Z 2 + k0) := e_8.trans (nI_add (Z 2) k0)
          refine lv_ldc (v := nI 32768) hx hb hown (hts _ cn_X0_23) dX0_again_35 ?_
          refine lv_icmp_le (tgt := 43) hx hb dX0_again_37 (by decide) (fun c_9 => ?_) (fun c_9 => ?_)
          · have c_9 := (nI_leI (a := Z 2 + k0) (b := 32768) (by omega) (by omega)).mp c_9
            omega
          · have c_9 := mt (nI_leI (a := Z 2 + k0) (b := 32768) (by omega) (by omega)).mpr c_9
            refine lv_bipush (v := (-3)) hx hb dX0_again_40 (by decide) ?_
            exact W.iret (v := (-3)) hx hb hr (fun t ht hW => ⟨⟨_, (Z, T, K), rfl, ⟨rfl, rfl⟩, by rw [ht]; exact hP, va_K.moved hW.alike hK, hD⟩, hS.F ht⟩) hS.2.2 dX0_again_42
        · have c_6 := mt (nI_leI (a := f) (b := Z 2 - k0) (by omega) (by omega)).mpr c_6
          omega
set_option maxHeartbeats 4000000 in
set_option maxRecDepth 100000 in
theorem k_again_45 {p : Program} {l : Launch} {e : Env} {s : State} {m : MethodId} {args : Array Value} {below : List Frame} {meth : Method} {c : Code} {A : Nat → Prop} (hx : p.tables.exec = Jvm.exec) (hb : c.code = cX0_again) (hr : meth.sig.returnType = (some .int)) (hml : c.maxLocals = 4) (hown : s.vm.findClass RX0 = some m.cls) (hts : ∀ w ∈ bw, w.before args s = true) (hlocks : meth.locks = false) {dC : Nat → ClassId} {dI : Nat → Nat → Nat} {cA : ClassId} {a0 a1 a2 : Nat} {Z : Nat → Nat} {T K : Nat → Int64} (hK : va_K (dC, dI) vwCl [(cA, .long)] s) (hA : ∀ q, s.heap.size ≤ q → A q) (f k0 : Nat) (hfk : f + k0 ≤ Z 2) (hfit : Z 2 + k0 ≤ 32768) : ∀ (k : Nat) (T1 : Nat → Int64) (i : Nat), k0 - i < k → i ≤ k0 → (∀ q, byt T1 q = if Z 2 ≤ q ∧ q < Z 2 + i then byt T (f + (q - Z 2)) else byt T q) → ∀ (H : Heap) (locs : List Loc), va_P (dC, dI) vwCl (lmW cA a0 a1 a2 ((zu Z 2 (Z 2 + i)), T1, K)) H → va_D A (lmW cA a0 a1 a2 ((zu Z 2 (Z 2 + i)), T1, K)) → va_S A s.heap H locs → ∀ ls, lv_has ls 4 [(0, .ref a0), (1, .int (nI f)), (2, .int (nI k0)), (3, .int (nI i))] → W p l e (headSpec wX0_again ({ frames := 1, cells := 0, slots := 0, locals := 23 })).room s m args below meth c H locs 0 0 (MQ below (va_Qi (fun (r : Int32) (u : lmU) => ∃ T1, r = nI (Z 2 + k0) ∧ u = (zu Z 2 (Z 2 + k0), T1, K) ∧ ∀ q, byt T1 q = if Z 2 ≤ q ∧ q < Z 2 + k0 then byt T (f + (q - Z 2)) else byt T q) (lmB dC dI cA a0 a1 a2 A) A) args s 0 0 A) (F0 m 45 ls []) := by
  intro k
  induction k with
  | zero => intro T1 i hk; exact absurd hk (by omega)
  | succ k ih =>
    intro T1 i hk hi hT H locs hP hD hS ls hl
    refine lv_iload_n hx hb dX0_again_45 rfl (lv_at hl 3 rfl) ?_
    refine lv_iload_n hx hb dX0_again_46 rfl (lv_at hl 2 rfl) ?_
    refine lv_icmp_ge (tgt := 67) hx hb dX0_again_47 (by decide) (fun c_1 => ?_) (fun c_1 => ?_)
    · have c_1 := (nI_leI (a := k0) (b := i) (by omega) (by omega)).mp c_1
      refine lv_aload_n hx hb dX0_again_67 rfl (lv_at hl 0 rfl) ?_
      refine va_get (D := (dC, dI)) (ci := 0) (v := .int (nI (Z 2 + i))) (C := RX0) (T := TX0) (N := 16) hx hb hts inX0 hown hK hP 0 rfl rfl 2 (by decide) (hts _ fl_X0_19) (fun _ h9 => h9) rfl dX0_again_68 ?_
      exact W.iret (v := nI (Z 2 + i)) hx hb hr (fun t ht hW => ⟨⟨_, ((zu Z 2 (Z 2 + i)), T1, K), rfl, ⟨T1, by rw [show k0 = i by omega], by rw [show k0 = i by omega], by rw [show k0 = i by omega]; exact hT⟩, by rw [ht]; exact hP, va_K.moved hW.alike hK, hD⟩, hS.F ht⟩) hS.2.2 dX0_again_71
    · have c_1 := mt (nI_leI (a := k0) (b := i) (by omega) (by omega)).mpr c_1
      refine lv_aload_n hx hb dX0_again_50 rfl (lv_at hl 0 rfl) ?_
      refine lv_aload_n hx hb dX0_again_51 rfl (lv_at hl 0 rfl) ?_
      refine lv_iload_n hx hb dX0_again_52 rfl (lv_at hl 1 rfl) ?_
      refine lv_iload_n hx hb dX0_again_53 rfl (lv_at hl 3 rfl) ?_
      refine lv_iadd hx hb dX0_again_54 ?_
      refine lv_topi (fun x_2 e_3 => ?_)
      obtain rfl : x_2 = nI (f + i) := e_3.trans (nI_add f i)
      refine vp_callSi (va_Run.run (va_runV (As := [.int (nI (f + i))]) (rest := [.ref a0]) ⟨hx, hb, hml, hown, hts⟩ (c_byteAt l dC dI cA a0 a1 a2 (zu Z 2 (Z 2 + i)) T1 K (f + i) (show Z 2 + i ≤ 32768 by omega) (show f + i < 2 ^ 31 by omega)) (cwV 1 hts (gV (fun _ h => h) ml_X0_28 im_X0_byteAt se_X0_byteAt ini_X0 co_X0_byteAt) rfl rfl rfl pd_X0_byteAt ⟨Nat.le_of_ble_eq_true rfl, Nat.le_of_ble_eq_true rfl⟩) (lm_preR hK hP) rfl rfl hl.1 rfl (lv_room (Nat.le_of_ble_eq_true rfl)) dX0_again_55 ⟨Nat.zero_le _, Nat.zero_le _⟩)) (fun r_4 (e_5 : r_4 = bI (gb T1 (Z 2 + i) (f + i))) => ?_)
      subst e_5
      have := gb_in T1 (Z 2 + i) (f + i)
      refine lv_topi (fun x_6 e_7 => ?_)
      obtain rfl : x_6 = nI (byt T (f + i)) := e_7.trans (by rw [gb_lo (by omega), bI_lo (byt_lt _ _), hT, if_neg (by omega)])
      have := byt_lt T (f + i)
      refine lm_callv (va_runV (As := [.int (nI (byt T (f + i)))]) (rest := []) ⟨hx, hb, hml, hown, hts⟩ (c_append l dC dI cA a0 a1 a2 H.size (zu Z 2 (Z 2 + i)) T1 K (byt T (f + i)) (show Z 2 + i < 32768 by omega) (show byt T (f + i) < 256 by omega)) (cwV 1 hts (gV (fun _ h => h) ml_X0_24 im_X0_append se_X0_append ini_X0 co_X0_append) rfl rfl rfl pd_X0_append ⟨Nat.le_of_ble_eq_true rfl, Nat.le_of_ble_eq_true rfl⟩) (lm_preS hK hP hD) rfl rfl hl.1 rfl (lv_room (Nat.le_of_ble_eq_true rfl)) dX0_again_58 ⟨Nat.zero_le _, Nat.zero_le _⟩) hD hS hA (fun u_9 H locs q_8 hP hD hS => ?_)
      obtain ⟨T_11, rfl, hT_12⟩ := q_8
      have hT_12 : ∀ p, byt T_11 p = if p = Z 2 + i then byt T (f + i) else byt T1 p := hT_12
      have hP : va_P (dC, dI) vwCl (lmW cA a0 a1 a2 ((zu Z 2 (Z 2 + i + 1)), T_11, K)) H := hP
      have hD : va_D A (lmW cA a0 a1 a2 ((zu Z 2 (Z 2 + i + 1)), T_11, K)) := hD
      refine lv_iinc (v := nI (i + 1)) (lv' := [(3, .int (nI (i + 1))), (0, .ref a0), (1, .int (nI f)), (2, .int (nI k0))]) hx hb dX0_again_61 hl (k := 3) rfl (by exact nI_add i 1) (by decide) rfl (fun ls hl => ?_)
      refine lv_goto (tgt := 45) hx hb dX0_again_64 (by decide) ?_
      exact ih T_11 (i + 1) (by omega) (by omega) (fun q => by rw [hT_12 q, hT q]; exact fd_step (g := fun j => byt T (f + j))) _ _ hP hD hS _ (lv_sub hl [1, 2, 3, 0] rfl)
set_option maxHeartbeats 4000000 in
set_option maxRecDepth 100000 in
theorem c_again_ok (l : Launch) (dC : Nat → ClassId) (dI : Nat → Nat → Nat) (cA : ClassId) (a0 a1 a2 : Nat) (sz : Nat) (Z : Nat → Nat) (T K : Nat → Int64) (f : Nat) (k0 : Nat) (hk1 : 1 ≤ k0) (h : f + k0 ≤ Z 2) (hfit : Z 2 + k0 ≤ 32768) : Met l yX0_again wX0_again ({ frames := 1, cells := 0, slots := 0, locals := 23 }) (va_Pc [.ref a0, .int (nI f), .int (nI k0)] (lmP dC dI cA a0 a1 a2 sz (Z, T, K))) (va_Qi (fun (r : Int32) (u : lmU) => ∃ T1, r = nI (Z 2 + k0) ∧ u = (zu Z 2 (Z 2 + k0), T1, K) ∧ ∀ q, byt T1 q = if Z 2 ≤ q ∧ q < Z 2 + k0 then byt T (f + (q - Z 2)) else byt T q) (lmB dC dI cA a0 a1 a2 (va_A (lmW cA a0 a1 a2 (Z, T, K)) sz)) (va_A (lmW cA a0 a1 a2 (Z, T, K)) sz)) 0 0 (va_A (lmW cA a0 a1 a2 (Z, T, K)) sz) := by
  refine Met.ofW (cc := cX0_again) (maxL := 4) (ret := (some .int)) (by decide) rfl ?_
  intro p e s m args below meth c s₁ B hml hv
  obtain ⟨rfl, hsz, hP, hK, hD0⟩ := hv
  have hx := B.exec
  have hb := B.bytes
  have hr := B.returns
  have hts : ∀ w ∈ bw, w.before _ s = true := fun w h => atoms_spec (ws := wX0_again) B.pre w (bc w h)
  have hown : s.vm.findClass RX0 = some m.cls := findClass_of_methodNamed B.named
  have hlocks := B.notSynchronized
  subst hsz
  have hD := hD0.self (sz := s.heap.size)
  generalize hAe : va_A (lmW cA a0 a1 a2 (Z, T, K)) s.heap.size = A at hD ⊢
  have hA : ∀ q : Nat, s.heap.size ≤ q → A q := fun q h => by rw [← hAe]; exact Or.inr h
  have hS : va_S A s.heap s.heap [] := va_S.rf
  have hl := lv_entry ([.ref a0, .int (nI f), .int (nI k0)]) (n := 4) (Nat.le_of_ble_eq_true rfl)
  rw [lg_entry_eq]
  generalize (lg_sl ([.ref a0, .int (nI f), .int (nI k0)]) ++ List.replicate (4 - (lg_sl ([.ref a0, .int (nI f), .int (nI k0)])).length) Slot.unset).toArray = ls at hl ⊢
  have hl : lv_has ls 4 [(0, .ref a0), (1, .int (nI f)), (2, .int (nI k0))] := hl
  refine lv_iload_n hx hb dX0_again_0 rfl (lv_at hl 1 rfl) ?_
  refine lv_if_lt (tgt := 27) hx hb dX0_again_1 (by decide) (fun c_1 => ?_) (fun c_1 => ?_)
  · have c_1 := (nI_ltI (a := f) (b := 0) (by omega) (by omega)).mp c_1
    omega
  · have c_1 := mt (nI_ltI (a := f) (b := 0) (by omega) (by omega)).mpr c_1
    refine lv_iload_n hx hb dX0_again_4 rfl (lv_at hl 2 rfl) ?_
    refine lv_iconst (v := nI 1) hx hb dX0_again_5 (by decide) ?_
    refine lv_icmp_lt (tgt := 27) hx hb dX0_again_6 (by decide) (fun c_2 => ?_) (fun c_2 => ?_)
    · have c_2 := (nI_ltI (a := k0) (b := 1) (by omega) (by omega)).mp c_2
      omega
    · have c_2 := mt (nI_ltI (a := k0) (b := 1) (by omega) (by omega)).mpr c_2
      refine lv_iload_n hx hb dX0_again_9 rfl (lv_at hl 2 rfl) ?_
      refine lv_aload_n hx hb dX0_again_10 rfl (lv_at hl 0 rfl) ?_
      refine va_get (D := (dC, dI)) (ci := 0) (v := .int (nI (Z 2))) (C := RX0) (T := TX0) (N := 16) hx hb hts inX0 hown hK hP 0 rfl rfl 2 (by decide) (hts _ fl_X0_19) (fun _ h9 => h9) rfl dX0_again_11 ?_
      refine lv_icmp_gt (tgt := 27) hx hb dX0_again_14 (by decide) (fun c_3 => ?_) (fun c_3 => ?_)
      · have c_3 := (nI_ltI (a := Z 2) (b := k0) (by omega) (by omega)).mp c_3
        omega
      · have c_3 := mt (nI_ltI (a := Z 2) (b := k0) (by omega) (by omega)).mpr c_3
        refine lv_iload_n hx hb dX0_again_17 rfl (lv_at hl 1 rfl) ?_
        refine lv_aload_n hx hb dX0_again_18 rfl (lv_at hl 0 rfl) ?_
        refine va_get (D := (dC, dI)) (ci := 0) (v := .int (nI (Z 2))) (C := RX0) (T := TX0) (N := 16) hx hb hts inX0 hown hK hP 0 rfl rfl 2 (by decide) (hts _ fl_X0_19) (fun _ h9 => h9) rfl dX0_again_19 ?_
        refine lv_iload_n hx hb dX0_again_22 rfl (lv_at hl 2 rfl) ?_
        refine lv_isub hx hb dX0_again_23 ?_
        refine lv_topi (fun x_4 e_5 => ?_)
        obtain rfl : x_4 = nI (Z 2 - k0) := e_5.trans (pk_sub (by omega))
        refine lv_icmp_le (tgt := 29) hx hb dX0_again_24 (by decide) (fun c_6 => ?_) (fun c_6 => ?_)
        · have c_6 := (nI_leI (a := f) (b := Z 2 - k0) (by omega) (by omega)).mp c_6
          refine lv_aload_n hx hb dX0_again_29 rfl (lv_at hl 0 rfl) ?_
          refine va_get (D := (dC, dI)) (ci := 0) (v := .int (nI (Z 2))) (C := RX0) (T := TX0) (N := 16) hx hb hts inX0 hown hK hP 0 rfl rfl 2 (by decide) (hts _ fl_X0_19) (fun _ h9 => h9) rfl dX0_again_30 ?_
          refine lv_iload_n hx hb dX0_again_33 rfl (lv_at hl 2 rfl) ?_
          refine lv_iadd hx hb dX0_again_34 ?_
          refine lv_topi (fun x_7 e_8 => ?_)
          obtain rfl : x_7 = nI (Z 2 + k0) := e_8.trans (nI_add (Z 2) k0)
          refine lv_ldc (v := nI 32768) hx hb hown (hts _ cn_X0_23) dX0_again_35 ?_
          refine lv_icmp_le (tgt := 43) hx hb dX0_again_37 (by decide) (fun c_9 => ?_) (fun c_9 => ?_)
          · have c_9 := (nI_leI (a := Z 2 + k0) (b := 32768) (by omega) (by omega)).mp c_9
            refine lv_iconst (v := nI 0) hx hb dX0_again_43 (by decide) ?_
            refine lv_istore_n (lv' := [(3, .int (nI 0)), (0, .ref a0), (1, .int (nI f)), (2, .int (nI k0))]) hx hb dX0_again_44 rfl hl (by decide) rfl (fun ls hl => ?_)
            exact k_again_45 hx hb hr hml hown hts hlocks hK hA f k0 h hfit (k0 + 1) T 0 (by omega) (by omega) (fun q => by rw [if_neg (by omega)]) _ _ hP hD hS _ (lv_sub hl [1, 2, 3, 0] rfl)
          · have c_9 := mt (nI_leI (a := Z 2 + k0) (b := 32768) (by omega) (by omega)).mpr c_9
            omega
        · have c_6 := mt (nI_leI (a := f) (b := Z 2 - k0) (by omega) (by omega)).mpr c_6
          omega
end
section
def tkS (K : Nat → Int64) (i : Nat) : Nat := tn (K i) % 65536
def tkB (K : Nat → Int64) (i : Nat) : Nat := tn (K i) / 2 ^ 16 % 65536
def tkL (K : Nat → Int64) (i : Nat) : Nat := tn (K i) / 2 ^ 32 % 65536
def tkK (K : Nat → Int64) (i : Nat) : Nat := tn (K i) / 2 ^ 48 % 16
def tkF (K : Nat → Int64) (i : Nat) : Nat := tn (K i) / 2 ^ 52 % 2
def drB (T : Nat → Int64) (Z : Nat → Nat) (K : Nat → Int64) : Bool := if 0 < Z 9 ∧ tkB K 0 = 1 ∧ gb T (Z 2) (tkS K 0) = 35 then true else false
theorem drB_t {T : Nat → Int64} {Z : Nat → Nat} {K : Nat → Int64} (h : 0 < Z 9 ∧ tkB K 0 = 1 ∧ gb T (Z 2) (tkS K 0) = 35) : drB T Z K = true := by rw [drB, if_pos h]
theorem drB_f {T : Nat → Int64} {Z : Nat → Nat} {K : Nat → Int64} (h : ¬ (0 < Z 9 ∧ tkB K 0 = 1 ∧ gb T (Z 2) (tkS K 0) = 35)) : drB T Z K = false := by rw [drB, if_neg h]
/-- told -/
def tdA (T : Nat → Int64) (Z : Nat → Nat) (K : Nat → Int64) (w : Int32) : Int32 :=
  if w = nI 0 then b2i (drB T Z K) else if w = nI 1 then nI (Z 5) else if w = nI 2 then nI (Z 7) else if w = nI 3 then nI (if Z 8 = 0 then Z 4 else 0) else (-1)
/-- token, of a token that is there -/
def tkA (K : Nat → Int64) (j : Nat) (w : Int32) : Int32 :=
  if w = nI 0 then nI (tkK K j) else if w = nI 1 then nI (tkL K j) else if w = nI 2 then nI (tkB K j) else if w = nI 3 then nI (tkF K j) else if w = nI 4 then nI (if j = 0 then 1 else 0) else (-1)
theorem sw_3 (x : Int32) : x = nI 0 ∨ x = nI 1 ∨ x = nI 2 ∨ x = nI 3 ∨ (x.toInt < 0 ∨ 3 < x.toInt) := by
  rcases pk_ix x (n := 4) (by decide) with h | h | ⟨j, hj, rfl⟩
  · have : x.toInt < 0 := by rw [Int32.lt_iff_toInt_lt] at h; exact h
    omega
  · have : 3 < x.toInt := by
      rw [Int32.le_iff_toInt_le, nI_toInt (by decide)] at h
      omega
    omega
  · have : j = 0 ∨ j = 1 ∨ j = 2 ∨ j = 3 := by omega
    rcases this with rfl | rfl | rfl | rfl
    · exact Or.inl rfl
    · exact Or.inr (Or.inl rfl)
    · exact Or.inr (Or.inr (Or.inl rfl))
    · exact Or.inr (Or.inr (Or.inr (Or.inl rfl)))
theorem sw_4 (x : Int32) : x = nI 0 ∨ x = nI 1 ∨ x = nI 2 ∨ x = nI 3 ∨ x = nI 4 ∨ (x.toInt < 0 ∨ 4 < x.toInt) := by
  rcases pk_ix x (n := 5) (by decide) with h | h | ⟨j, hj, rfl⟩
  · have : x.toInt < 0 := by rw [Int32.lt_iff_toInt_lt] at h; exact h
    omega
  · have : 4 < x.toInt := by
      rw [Int32.le_iff_toInt_le, nI_toInt (by decide)] at h
      omega
    omega
  · have : j = 0 ∨ j = 1 ∨ j = 2 ∨ j = 3 ∨ j = 4 := by omega
    rcases this with rfl | rfl | rfl | rfl | rfl
    · exact Or.inl rfl
    · exact Or.inr (Or.inl rfl)
    · exact Or.inr (Or.inr (Or.inl rfl))
    · exact Or.inr (Or.inr (Or.inr (Or.inl rfl)))
    · exact Or.inr (Or.inr (Or.inr (Or.inr (Or.inl rfl))))
set_option maxHeartbeats 4000000 in
set_option maxRecDepth 100000 in
theorem c_isAtHand_in (l : Launch) (dC : Nat → ClassId) (dI : Nat → Nat → Nat) (cA : ClassId) (a0 a1 a2 : Nat) (Z : Nat → Nat) (T K : Nat → Int64) (j : Nat) (h9 : Z 9 ≤ 8000) (hj : j < Z 9) : Met l yX0_isAtHand wX0_isAtHand ({ frames := 0, cells := 0, slots := 0, locals := 0 }) (va_Pc [.ref a0, .int (nI j)] (lmR dC dI cA a0 a1 a2 (Z, T, K))) (vp_Si (fun r => r = nI 1)) 0 0 (fun _ => False) := by
  refine Met.ofW (cc := cX0_isAtHand) (maxL := 2) (ret := (some .boolean)) (by decide) rfl ?_
  intro p e s m args below meth c s₁ B hml hv
  obtain ⟨rfl, hP, hK⟩ := hv
  have hx := B.exec
  have hb := B.bytes
  have hr := B.returns
  have hts : ∀ w ∈ bw, w.before _ s = true := fun w h => atoms_spec (ws := wX0_isAtHand) B.pre w (bc w h)
  have hown : s.vm.findClass RX0 = some m.cls := findClass_of_methodNamed B.named
  have hlocks := B.notSynchronized
  have hl := lv_entry ([.ref a0, .int (nI j)]) (n := 2) (Nat.le_of_ble_eq_true rfl)
  rw [lg_entry_eq]
  generalize (lg_sl ([.ref a0, .int (nI j)]) ++ List.replicate (2 - (lg_sl ([.ref a0, .int (nI j)])).length) Slot.unset).toArray = ls at hl ⊢
  have hl : lv_has ls 2 [(0, .ref a0), (1, .int (nI j))] := hl
  refine lv_iload_n hx hb dX0_isAtHand_0 rfl (lv_at hl 1 rfl) ?_
  refine lv_if_lt (tgt := 25) hx hb dX0_isAtHand_1 (by decide) (fun c_1 => ?_) (fun c_1 => ?_)
  · have c_1 := (nI_ltI (a := j) (b := 0) (by omega) (by omega)).mp c_1
    omega
  · have c_1 := mt (nI_ltI (a := j) (b := 0) (by omega) (by omega)).mpr c_1
    refine lv_iload_n hx hb dX0_isAtHand_4 rfl (lv_at hl 1 rfl) ?_
    refine lv_aload_n hx hb dX0_isAtHand_5 rfl (lv_at hl 0 rfl) ?_
    refine va_get (D := (dC, dI)) (ci := 0) (v := .int (nI (Z 9))) (C := RX0) (T := TX0) (N := 16) hx hb hts inX0 hown hK hP 0 rfl rfl 9 (by decide) (hts _ fl_X0_32) (fun _ h9 => h9) rfl dX0_isAtHand_6 ?_
    refine lv_icmp_ge (tgt := 25) hx hb dX0_isAtHand_9 (by decide) (fun c_2 => ?_) (fun c_2 => ?_)
    · have c_2 := (nI_leI (a := Z 9) (b := j) (by omega) (by omega)).mp c_2
      omega
    · have c_2 := mt (nI_leI (a := Z 9) (b := j) (by omega) (by omega)).mpr c_2
      refine lv_iload_n hx hb dX0_isAtHand_12 rfl (lv_at hl 1 rfl) ?_
      refine lv_aload_n hx hb dX0_isAtHand_13 rfl (lv_at hl 0 rfl) ?_
      refine va_get (D := (dC, dI)) (ci := 0) (v := .ref a2) (C := RX0) (T := TX0) (N := 16) hx hb hts inX0 hown hK hP 0 rfl rfl 1 (by decide) (hts _ fl_X0_13) (fun _ h9 => h9) rfl dX0_isAtHand_14 ?_
      refine va_alen hx hb hK hP 2 0 rfl rfl (v := nI 8000) rfl dX0_isAtHand_17 ?_
      refine lv_icmp_ge (tgt := 25) hx hb dX0_isAtHand_18 (by decide) (fun c_3 => ?_) (fun c_3 => ?_)
      · have c_3 := (nI_leI (a := 8000) (b := j) (by omega) (by omega)).mp c_3
        omega
      · have c_3 := mt (nI_leI (a := 8000) (b := j) (by omega) (by omega)).mpr c_3
        refine lv_iconst (v := nI 1) hx hb dX0_isAtHand_21 (by decide) ?_
        refine lv_goto (tgt := 26) hx hb dX0_isAtHand_22 (by decide) ?_
        exact W.zret (v := nI 1) hx hb hr rfl (fun t ht hW => ⟨_, rfl, rfl, ht⟩) (fun q h => by cases h) dX0_isAtHand_26
set_option maxHeartbeats 4000000 in
set_option maxRecDepth 100000 in
theorem c_isAtHand_out (l : Launch) (dC : Nat → ClassId) (dI : Nat → Nat → Nat) (cA : ClassId) (a0 a1 a2 : Nat) (Z : Nat → Nat) (T K : Nat → Int64) (i : Int32) (h9 : Z 9 ≤ 8000) (h : i < 0 ∨ nI (Z 9) ≤ i) : Met l yX0_isAtHand wX0_isAtHand ({ frames := 0, cells := 0, slots := 0, locals := 0 }) (va_Pc [.ref a0, .int (i)] (lmR dC dI cA a0 a1 a2 (Z, T, K))) (vp_Si (fun r => r = nI 0)) 0 0 (fun _ => False) := by
  refine Met.ofW (cc := cX0_isAtHand) (maxL := 2) (ret := (some .boolean)) (by decide) rfl ?_
  intro p e s m args below meth c s₁ B hml hv
  obtain ⟨rfl, hP, hK⟩ := hv
  have hx := B.exec
  have hb := B.bytes
  have hr := B.returns
  have hts : ∀ w ∈ bw, w.before _ s = true := fun w h => atoms_spec (ws := wX0_isAtHand) B.pre w (bc w h)
  have hown : s.vm.findClass RX0 = some m.cls := findClass_of_methodNamed B.named
  have hlocks := B.notSynchronized
  have hl := lv_entry ([.ref a0, .int (i)]) (n := 2) (Nat.le_of_ble_eq_true rfl)
  rw [lg_entry_eq]
  generalize (lg_sl ([.ref a0, .int (i)]) ++ List.replicate (2 - (lg_sl ([.ref a0, .int (i)])).length) Slot.unset).toArray = ls at hl ⊢
  have hl : lv_has ls 2 [(0, .ref a0), (1, .int (i))] := hl
  refine lv_iload_n hx hb dX0_isAtHand_0 rfl (lv_at hl 1 rfl) ?_
  refine lv_if_lt (tgt := 25) hx hb dX0_isAtHand_1 (by decide) (fun c_1 => ?_) (fun c_1 => ?_)
  · refine lv_iconst (v := nI 0) hx hb dX0_isAtHand_25 (by decide) ?_
    exact W.zret (v := nI 0) hx hb hr rfl (fun t ht hW => ⟨_, rfl, rfl, ht⟩) (fun q h => by cases h) dX0_isAtHand_26
  · refine lv_iload_n hx hb dX0_isAtHand_4 rfl (lv_at hl 1 rfl) ?_
    refine lv_aload_n hx hb dX0_isAtHand_5 rfl (lv_at hl 0 rfl) ?_
    refine va_get (D := (dC, dI)) (ci := 0) (v := .int (nI (Z 9))) (C := RX0) (T := TX0) (N := 16) hx hb hts inX0 hown hK hP 0 rfl rfl 9 (by decide) (hts _ fl_X0_32) (fun _ h9 => h9) rfl dX0_isAtHand_6 ?_
    refine lv_icmp_ge (tgt := 25) hx hb dX0_isAtHand_9 (by decide) (fun c_2 => ?_) (fun c_2 => ?_)
    · refine lv_iconst (v := nI 0) hx hb dX0_isAtHand_25 (by decide) ?_
      exact W.zret (v := nI 0) hx hb hr rfl (fun t ht hW => ⟨_, rfl, rfl, ht⟩) (fun q h => by cases h) dX0_isAtHand_26
    · exact (h.elim c_1 c_2).elim
set_option maxHeartbeats 4000000 in
set_option maxRecDepth 100000 in
theorem c_isDirective (l : Launch) (dC : Nat → ClassId) (dI : Nat → Nat → Nat) (cA : ClassId) (a0 a1 a2 : Nat) (Z : Nat → Nat) (T K : Nat → Int64)  (hn : Z 2 ≤ 32768) (h9 : Z 9 ≤ 8000) : Met l yX0_isDirective wX0_isDirective ({ frames := 1, cells := 0, slots := 0, locals := 22 }) (va_Pc [.ref a0] (lmR dC dI cA a0 a1 a2 (Z, T, K))) (vp_Si (fun r => r = b2i (drB T Z K))) 0 0 (fun _ => False) := by
  refine Met.ofW (cc := cX0_isDirective) (maxL := 1) (ret := (some .boolean)) (by decide) rfl ?_
  intro p e s m args below meth c s₁ B hml hv
  obtain ⟨rfl, hP, hK⟩ := hv
  have hx := B.exec
  have hb := B.bytes
  have hr := B.returns
  have hts : ∀ w ∈ bw, w.before _ s = true := fun w h => atoms_spec (ws := wX0_isDirective) B.pre w (bc w h)
  have hown : s.vm.findClass RX0 = some m.cls := findClass_of_methodNamed B.named
  have hlocks := B.notSynchronized
  have hl := lv_entry ([.ref a0]) (n := 1) (Nat.le_of_ble_eq_true rfl)
  rw [lg_entry_eq]
  generalize (lg_sl ([.ref a0]) ++ List.replicate (1 - (lg_sl ([.ref a0])).length) Slot.unset).toArray = ls at hl ⊢
  have hl : lv_has ls 1 [(0, .ref a0)] := hl
  refine lv_aload_n hx hb dX0_isDirective_0 rfl (lv_at hl 0 rfl) ?_
  refine lv_iconst (v := nI 0) hx hb dX0_isDirective_1 (by decide) ?_
  by_cases h0 : 0 < Z 9
  · refine vp_callSi (va_Run.run (va_runV (As := [.int (nI 0)]) (rest := []) ⟨hx, hb, hml, hown, hts⟩ (c_isAtHand_in l dC dI cA a0 a1 a2 Z T K 0 h9 h0) (cwV 1 hts (gV (fun _ h => h) ml_X0_71 im_X0_isAtHand se_X0_isAtHand ini_X0 co_X0_isAtHand) rfl rfl rfl pd_X0_isAtHand ⟨Nat.le_of_ble_eq_true rfl, Nat.le_of_ble_eq_true rfl⟩) (lm_preR hK hP) rfl rfl hl.1 rfl (lv_room (Nat.le_of_ble_eq_true rfl)) dX0_isDirective_2 ⟨Nat.zero_le _, Nat.zero_le _⟩)) (fun r_1 (e_2 : r_1 = nI 1) => ?_)
    subst e_2
    refine lv_if_eq (tgt := 43) hx hb dX0_isDirective_5 (by decide) (fun c_3 => ?_) (fun c_3 => ?_)
    · have c_3 := (nI_eq (a := 1) (b := 0) (by omega) (by omega)).mp c_3
      omega
    · have c_3 := mt (nI_eq (a := 1) (b := 0) (by omega) (by omega)).mpr c_3
      refine lv_aload_n hx hb dX0_isDirective_8 rfl (lv_at hl 0 rfl) ?_
      refine va_get (D := (dC, dI)) (ci := 0) (v := .ref a2) (C := RX0) (T := TX0) (N := 16) hx hb hts inX0 hown hK hP 0 rfl rfl 1 (by decide) (hts _ fl_X0_13) (fun _ h9 => h9) rfl dX0_isDirective_9 ?_
      refine lv_iconst (v := nI 0) hx hb dX0_isDirective_12 (by decide) ?_
      refine va_lald hx hb hK hP 2 0 rfl rfl (vp_in_nI (by omega) (by decide)) dX0_isDirective_13 ?_
      refine lv_topl (fun x_4 e_5 => ?_)
      obtain rfl : x_4 = lN (tn (K 0)) := e_5.trans (by rw [nI_clamp (by omega), tn_lN])
      refine vp_callSi (va_Run.run (va_runS (As := [.long (lN (tn (K 0)))]) (rest := []) ⟨hx, hb, hml, hown, hts⟩ (c_bytesOf l (tn (K 0)) (tn_lt _)) (cwS 1 hts (gS (fun _ h => h) ml_X0_76 sm_X0_bytesOf ini_X0 co_X0_bytesOf) rfl rfl rfl pd_X0_bytesOf ⟨Nat.le_of_ble_eq_true rfl, Nat.le_of_ble_eq_true rfl⟩) st_pre rfl rfl hl.1 rfl (lv_room (Nat.le_of_ble_eq_true rfl)) dX0_isDirective_14 ⟨Nat.zero_le _, Nat.zero_le _⟩)) (fun r_6 (e_7 : r_6 = nI ((tn (K 0)) / 2 ^ 16 % 65536)) => ?_)
      subst e_7
      refine lv_iconst (v := nI 1) hx hb dX0_isDirective_17 (by decide) ?_
      refine lv_icmp_ne (tgt := 43) hx hb dX0_isDirective_18 (by decide) (fun c_8 => ?_) (fun c_8 => ?_)
      · have c_8 := mt (nI_eq (a := (tn (K 0)) / 2 ^ 16 % 65536) (b := 1) (by omega) (by omega)).mpr c_8
        refine lv_iconst (v := nI 0) hx hb dX0_isDirective_43 (by decide) ?_
        exact W.zret (v := nI 0) hx hb hr rfl (fun t ht hW => ⟨_, rfl, (by rw [drB_f (fun z => by have z1 := z.1; have z2 := z.2.1; have z3 := z.2.2; unfold tkB at z2; unfold tkS at z3; omega)]; rfl), ht⟩) (fun q h => by cases h) dX0_isDirective_44
      · have c_8 := (nI_eq (a := (tn (K 0)) / 2 ^ 16 % 65536) (b := 1) (by omega) (by omega)).mp c_8
        refine lv_aload_n hx hb dX0_isDirective_21 rfl (lv_at hl 0 rfl) ?_
        refine lv_aload_n hx hb dX0_isDirective_22 rfl (lv_at hl 0 rfl) ?_
        refine va_get (D := (dC, dI)) (ci := 0) (v := .ref a2) (C := RX0) (T := TX0) (N := 16) hx hb hts inX0 hown hK hP 0 rfl rfl 1 (by decide) (hts _ fl_X0_13) (fun _ h9 => h9) rfl dX0_isDirective_23 ?_
        refine lv_iconst (v := nI 0) hx hb dX0_isDirective_26 (by decide) ?_
        refine va_lald hx hb hK hP 2 0 rfl rfl (vp_in_nI (by omega) (by decide)) dX0_isDirective_27 ?_
        refine lv_topl (fun x_9 e_10 => ?_)
        obtain rfl : x_9 = lN (tn (K 0)) := e_10.trans (by rw [nI_clamp (by omega), tn_lN])
        refine vp_callSi (va_Run.run (va_runS (As := [.long (lN (tn (K 0)))]) (rest := [.ref a0]) ⟨hx, hb, hml, hown, hts⟩ (c_startOf l (tn (K 0))) (cwS 1 hts (gS (fun _ h => h) ml_X0_80 sm_X0_startOf ini_X0 co_X0_startOf) rfl rfl rfl pd_X0_startOf ⟨Nat.le_of_ble_eq_true rfl, Nat.le_of_ble_eq_true rfl⟩) st_pre rfl rfl hl.1 rfl (lv_room (Nat.le_of_ble_eq_true rfl)) dX0_isDirective_28 ⟨Nat.zero_le _, Nat.zero_le _⟩)) (fun r_11 (e_12 : r_11 = nI ((tn (K 0)) % 65536)) => ?_)
        subst e_12
        refine vp_callSi (va_Run.run (va_runV (As := [.int (nI ((tn (K 0)) % 65536))]) (rest := []) ⟨hx, hb, hml, hown, hts⟩ (c_byteAt l dC dI cA a0 a1 a2 Z T K ((tn (K 0)) % 65536) (show Z 2 ≤ 32768 by omega) (show (tn (K 0)) % 65536 < 2 ^ 31 by omega)) (cwV 1 hts (gV (fun _ h => h) ml_X0_28 im_X0_byteAt se_X0_byteAt ini_X0 co_X0_byteAt) rfl rfl rfl pd_X0_byteAt ⟨Nat.le_of_ble_eq_true rfl, Nat.le_of_ble_eq_true rfl⟩) (lm_preR hK hP) rfl rfl hl.1 rfl (lv_room (Nat.le_of_ble_eq_true rfl)) dX0_isDirective_31 ⟨Nat.zero_le _, Nat.zero_le _⟩)) (fun r_13 (e_14 : r_13 = bI (gb T (Z 2) ((tn (K 0)) % 65536))) => ?_)
        subst e_14
        have := gb_in T (Z 2) ((tn (K 0)) % 65536)
        refine lv_bipush (v := nI 35) hx hb dX0_isDirective_34 (by decide) ?_
        refine lv_icmp_ne (tgt := 43) hx hb dX0_isDirective_36 (by decide) (fun c_15 => ?_) (fun c_15 => ?_)
        · have c_15 := mt (bI_eqN (by omega)).mpr c_15
          refine lv_iconst (v := nI 0) hx hb dX0_isDirective_43 (by decide) ?_
          exact W.zret (v := nI 0) hx hb hr rfl (fun t ht hW => ⟨_, rfl, (by rw [drB_f (fun z => by have z1 := z.1; have z2 := z.2.1; have z3 := z.2.2; unfold tkB at z2; unfold tkS at z3; omega)]; rfl), ht⟩) (fun q h => by cases h) dX0_isDirective_44
        · have c_15 := (bI_eqN (by omega)).mp c_15
          refine lv_iconst (v := nI 1) hx hb dX0_isDirective_39 (by decide) ?_
          refine lv_goto (tgt := 44) hx hb dX0_isDirective_40 (by decide) ?_
          exact W.zret (v := nI 1) hx hb hr rfl (fun t ht hW => ⟨_, rfl, (by rw [drB_t ⟨by omega, by unfold tkB; omega, by unfold tkS; omega⟩]; rfl), ht⟩) (fun q h => by cases h) dX0_isDirective_44
  · refine vp_callSi (va_Run.run (va_runV (As := [.int (nI 0)]) (rest := []) ⟨hx, hb, hml, hown, hts⟩ (c_isAtHand_out l dC dI cA a0 a1 a2 Z T K (nI 0) h9 (Or.inr (by rw [show Z 9 = 0 by omega]; exact nI_le (Nat.le_refl 0) (by decide)))) (cwV 1 hts (gV (fun _ h => h) ml_X0_71 im_X0_isAtHand se_X0_isAtHand ini_X0 co_X0_isAtHand) rfl rfl rfl pd_X0_isAtHand ⟨Nat.le_of_ble_eq_true rfl, Nat.le_of_ble_eq_true rfl⟩) (lm_preR hK hP) rfl rfl hl.1 rfl (lv_room (Nat.le_of_ble_eq_true rfl)) dX0_isDirective_2 ⟨Nat.zero_le _, Nat.zero_le _⟩)) (fun r_16 (e_17 : r_16 = nI 0) => ?_)
    subst e_17
    refine lv_if_eq (tgt := 43) hx hb dX0_isDirective_5 (by decide) (fun c_18 => ?_) (fun c_18 => ?_)
    · have c_18 := (nI_eq (a := 0) (b := 0) (by omega) (by omega)).mp c_18
      refine lv_iconst (v := nI 0) hx hb dX0_isDirective_43 (by decide) ?_
      exact W.zret (v := nI 0) hx hb hr rfl (fun t ht hW => ⟨_, rfl, (by rw [drB_f (fun z => by have z1 := z.1; have z2 := z.2.1; have z3 := z.2.2; unfold tkB at z2; unfold tkS at z3; omega)]; rfl), ht⟩) (fun q h => by cases h) dX0_isDirective_44
    · have c_18 := mt (nI_eq (a := 0) (b := 0) (by omega) (by omega)).mpr c_18
      omega
set_option maxHeartbeats 4000000 in
set_option maxRecDepth 100000 in
theorem c_told (l : Launch) (dC : Nat → ClassId) (dI : Nat → Nat → Nat) (cA : ClassId) (a0 a1 a2 : Nat) (Z : Nat → Nat) (T K : Nat → Int64) (w : Int32) (hn : Z 2 ≤ 32768) (h9 : Z 9 ≤ 8000) (h8 : Z 8 ≤ 1) : Met l yX0_told wX0_told ({ frames := 2, cells := 0, slots := 0, locals := 42 }) (va_Pc [.ref a0, .int (w)] (lmR dC dI cA a0 a1 a2 (Z, T, K))) (vp_Si (fun r => r = tdA T Z K w)) 0 0 (fun _ => False) := by
  refine Met.ofW (cc := cX0_told) (maxL := 2) (ret := (some .int)) (by decide) rfl ?_
  intro p e s m args below meth c s₁ B hml hv
  obtain ⟨rfl, hP, hK⟩ := hv
  have hx := B.exec
  have hb := B.bytes
  have hr := B.returns
  have hts : ∀ w ∈ bw, w.before _ s = true := fun w h => atoms_spec (ws := wX0_told) B.pre w (bc w h)
  have hown : s.vm.findClass RX0 = some m.cls := findClass_of_methodNamed B.named
  have hlocks := B.notSynchronized
  have hl := lv_entry ([.ref a0, .int (w)]) (n := 2) (Nat.le_of_ble_eq_true rfl)
  rw [lg_entry_eq]
  generalize (lg_sl ([.ref a0, .int (w)]) ++ List.replicate (2 - (lg_sl ([.ref a0, .int (w)])).length) Slot.unset).toArray = ls at hl ⊢
  have hl : lv_has ls 2 [(0, .ref a0), (1, .int (w))] := hl
  refine lv_iload_n hx hb dX0_told_0 rfl (lv_at hl 1 rfl) ?_
  rcases sw_3 w with rfl | rfl | rfl | rfl | hsw
  · refine lv_tableIn (tgt := 32) hx hb dX0_told_1 (by decide) (by decide) rfl (by decide) ?_
    refine lv_aload_n hx hb dX0_told_32 rfl (lv_at hl 0 rfl) ?_
    refine vp_callSi (va_Run.run (va_runV (As := []) (rest := []) ⟨hx, hb, hml, hown, hts⟩ (c_isDirective l dC dI cA a0 a1 a2 Z T K hn h9) (cwV 0 hts (gV (fun _ h => h) ml_X0_58 im_X0_isDirective se_X0_isDirective ini_X0 co_X0_isDirective) rfl rfl rfl pd_X0_isDirective ⟨Nat.le_of_ble_eq_true rfl, Nat.le_of_ble_eq_true rfl⟩) (lm_preR hK hP) rfl rfl hl.1 rfl (lv_room (Nat.le_of_ble_eq_true rfl)) dX0_told_33 ⟨Nat.zero_le _, Nat.zero_le _⟩)) (fun r_1 (e_2 : r_1 = b2i (drB T Z K)) => ?_)
    subst e_2
    refine lv_if_eq (tgt := 43) hx hb dX0_told_36 (by decide) (fun c_3 => ?_) (fun c_3 => ?_)
    · have c_3 := (b2i_z (drB T Z K)).mp c_3
      refine lv_iconst (v := nI 0) hx hb dX0_told_43 (by decide) ?_
      exact W.iret (v := nI 0) hx hb hr (fun t ht hW => ⟨_, rfl, (by rw [tdA, if_pos rfl, c_3]; rfl), ht⟩) (fun q h => by cases h) dX0_told_44
    · have c_3 := mt (b2i_z (drB T Z K)).mpr c_3
      refine lv_iconst (v := nI 1) hx hb dX0_told_39 (by decide) ?_
      refine lv_goto (tgt := 44) hx hb dX0_told_40 (by decide) ?_
      exact W.iret (v := nI 1) hx hb hr (fun t ht hW => ⟨_, rfl, (by rw [tdA, if_pos rfl, show drB T Z K = true by simpa using c_3]; rfl), ht⟩) (fun q h => by cases h) dX0_told_44
  · refine lv_tableIn (tgt := 45) hx hb dX0_told_1 (by decide) (by decide) rfl (by decide) ?_
    refine lv_aload_n hx hb dX0_told_45 rfl (lv_at hl 0 rfl) ?_
    refine va_get (D := (dC, dI)) (ci := 0) (v := .int (nI (Z 5))) (C := RX0) (T := TX0) (N := 16) hx hb hts inX0 hown hK hP 0 rfl rfl 5 (by decide) (hts _ fl_X0_62) (fun _ h9 => h9) rfl dX0_told_46 ?_
    exact W.iret (v := nI (Z 5)) hx hb hr (fun t ht hW => ⟨_, rfl, (by rw [tdA, if_neg (by decide), if_pos rfl]), ht⟩) (fun q h => by cases h) dX0_told_49
  · refine lv_tableIn (tgt := 50) hx hb dX0_told_1 (by decide) (by decide) rfl (by decide) ?_
    refine lv_aload_n hx hb dX0_told_50 rfl (lv_at hl 0 rfl) ?_
    refine va_get (D := (dC, dI)) (ci := 0) (v := .int (nI (Z 7))) (C := RX0) (T := TX0) (N := 16) hx hb hts inX0 hown hK hP 0 rfl rfl 7 (by decide) (hts _ fl_X0_65) (fun _ h9 => h9) rfl dX0_told_51 ?_
    exact W.iret (v := nI (Z 7)) hx hb hr (fun t ht hW => ⟨_, rfl, (by rw [tdA, if_neg (by decide), if_neg (by decide), if_pos rfl]), ht⟩) (fun q h => by cases h) dX0_told_54
  · refine lv_tableIn (tgt := 55) hx hb dX0_told_1 (by decide) (by decide) rfl (by decide) ?_
    refine lv_aload_n hx hb dX0_told_55 rfl (lv_at hl 0 rfl) ?_
    refine va_get (D := (dC, dI)) (ci := 0) (v := .int (nI (Z 8))) (C := RX0) (T := TX0) (N := 16) hx hb hts inX0 hown hK hP 0 rfl rfl 8 (by decide) (hts _ fl_X0_35) (fun _ h9 => h9) rfl dX0_told_56 ?_
    refine lv_if_eq (tgt := 66) hx hb dX0_told_59 (by decide) (fun c_4 => ?_) (fun c_4 => ?_)
    · have c_4 := (nI_eq (a := Z 8) (b := 0) (by omega) (by omega)).mp c_4
      refine lv_aload_n hx hb dX0_told_66 rfl (lv_at hl 0 rfl) ?_
      refine va_get (D := (dC, dI)) (ci := 0) (v := .int (nI (Z 4))) (C := RX0) (T := TX0) (N := 16) hx hb hts inX0 hown hK hP 0 rfl rfl 4 (by decide) (hts _ fl_X0_68) (fun _ h9 => h9) rfl dX0_told_67 ?_
      exact W.iret (v := nI (Z 4)) hx hb hr (fun t ht hW => ⟨_, rfl, (by rw [tdA, if_neg (by decide), if_neg (by decide), if_neg (by decide), if_pos rfl, if_pos (by omega)]), ht⟩) (fun q h => by cases h) dX0_told_70
    · have c_4 := mt (nI_eq (a := Z 8) (b := 0) (by omega) (by omega)).mpr c_4
      refine lv_iconst (v := nI 0) hx hb dX0_told_62 (by decide) ?_
      refine lv_goto (tgt := 70) hx hb dX0_told_63 (by decide) ?_
      exact W.iret (v := nI 0) hx hb hr (fun t ht hW => ⟨_, rfl, (by rw [tdA, if_neg (by decide), if_neg (by decide), if_neg (by decide), if_pos rfl, if_neg (by omega)]), ht⟩) (fun q h => by cases h) dX0_told_70
  · refine lv_tableOut (tgt := 71) hx hb dX0_told_1 hsw (by decide) ?_
    refine lv_iconst (v := (-1)) hx hb dX0_told_71 (by decide) ?_
    exact W.iret (v := (-1)) hx hb hr (fun t ht hW => ⟨_, rfl, (by rw [tdA, if_neg (fun z => by rw [z] at hsw; revert hsw; decide), if_neg (fun z => by rw [z] at hsw; revert hsw; decide), if_neg (fun z => by rw [z] at hsw; revert hsw; decide), if_neg (fun z => by rw [z] at hsw; revert hsw; decide)]), ht⟩) (fun q h => by cases h) dX0_told_72
set_option maxHeartbeats 4000000 in
set_option maxRecDepth 100000 in
theorem c_token_out (l : Launch) (dC : Nat → ClassId) (dI : Nat → Nat → Nat) (cA : ClassId) (a0 a1 a2 : Nat) (Z : Nat → Nat) (T K : Nat → Int64) (i : Int32) (w : Int32) (h9 : Z 9 ≤ 8000) (h : i < 0 ∨ nI (Z 9) ≤ i) : Met l yX0_token wX0_token ({ frames := 1, cells := 0, slots := 0, locals := 21 }) (va_Pc [.ref a0, .int (i), .int (w)] (lmR dC dI cA a0 a1 a2 (Z, T, K))) (vp_Si (fun r => r = (-1))) 0 0 (fun _ => False) := by
  refine Met.ofW (cc := cX0_token) (maxL := 5) (ret := (some .int)) (by decide) rfl ?_
  intro p e s m args below meth c s₁ B hml hv
  obtain ⟨rfl, hP, hK⟩ := hv
  have hx := B.exec
  have hb := B.bytes
  have hr := B.returns
  have hts : ∀ w ∈ bw, w.before _ s = true := fun w h => atoms_spec (ws := wX0_token) B.pre w (bc w h)
  have hown : s.vm.findClass RX0 = some m.cls := findClass_of_methodNamed B.named
  have hlocks := B.notSynchronized
  have hl := lv_entry ([.ref a0, .int (i), .int (w)]) (n := 5) (Nat.le_of_ble_eq_true rfl)
  rw [lg_entry_eq]
  generalize (lg_sl ([.ref a0, .int (i), .int (w)]) ++ List.replicate (5 - (lg_sl ([.ref a0, .int (i), .int (w)])).length) Slot.unset).toArray = ls at hl ⊢
  have hl : lv_has ls 5 [(0, .ref a0), (1, .int (i)), (2, .int (w))] := hl
  refine lv_aload_n hx hb dX0_token_0 rfl (lv_at hl 0 rfl) ?_
  refine lv_iload_n hx hb dX0_token_1 rfl (lv_at hl 1 rfl) ?_
  refine vp_callSi (va_Run.run (va_runV (As := [.int (i)]) (rest := []) ⟨hx, hb, hml, hown, hts⟩ (c_isAtHand_out l dC dI cA a0 a1 a2 Z T K i h9 h) (cwV 1 hts (gV (fun _ h => h) ml_X0_71 im_X0_isAtHand se_X0_isAtHand ini_X0 co_X0_isAtHand) rfl rfl rfl pd_X0_isAtHand ⟨Nat.le_of_ble_eq_true rfl, Nat.le_of_ble_eq_true rfl⟩) (lm_preR hK hP) rfl rfl hl.1 rfl (lv_room (Nat.le_of_ble_eq_true rfl)) dX0_token_2 ⟨Nat.zero_le _, Nat.zero_le _⟩)) (fun r_1 (e_2 : r_1 = nI 0) => ?_)
  subst e_2
  refine lv_if_ne (tgt := 10) hx hb dX0_token_5 (by decide) (fun c_3 => ?_) (fun c_3 => ?_)
  · have c_3 := mt (nI_eq (a := 0) (b := 0) (by omega) (by omega)).mpr c_3
    omega
  · have c_3 := (nI_eq (a := 0) (b := 0) (by omega) (by omega)).mp c_3
    refine lv_iconst (v := (-1)) hx hb dX0_token_8 (by decide) ?_
    exact W.iret (v := (-1)) hx hb hr (fun t ht hW => ⟨_, rfl, rfl, ht⟩) (fun q h => by cases h) dX0_token_9
set_option maxHeartbeats 4000000 in
set_option maxRecDepth 100000 in
theorem c_token_in (l : Launch) (dC : Nat → ClassId) (dI : Nat → Nat → Nat) (cA : ClassId) (a0 a1 a2 : Nat) (Z : Nat → Nat) (T K : Nat → Int64) (j : Nat) (w : Int32) (h9 : Z 9 ≤ 8000) (hj : j < Z 9) : Met l yX0_token wX0_token ({ frames := 1, cells := 0, slots := 0, locals := 21 }) (va_Pc [.ref a0, .int (nI j), .int (w)] (lmR dC dI cA a0 a1 a2 (Z, T, K))) (vp_Si (fun r => r = tkA K j w)) 0 0 (fun _ => False) := by
  refine Met.ofW (cc := cX0_token) (maxL := 5) (ret := (some .int)) (by decide) rfl ?_
  intro p e s m args below meth c s₁ B hml hv
  obtain ⟨rfl, hP, hK⟩ := hv
  have hx := B.exec
  have hb := B.bytes
  have hr := B.returns
  have hts : ∀ w ∈ bw, w.before _ s = true := fun w h => atoms_spec (ws := wX0_token) B.pre w (bc w h)
  have hown : s.vm.findClass RX0 = some m.cls := findClass_of_methodNamed B.named
  have hlocks := B.notSynchronized
  have hl := lv_entry ([.ref a0, .int (nI j), .int (w)]) (n := 5) (Nat.le_of_ble_eq_true rfl)
  rw [lg_entry_eq]
  generalize (lg_sl ([.ref a0, .int (nI j), .int (w)]) ++ List.replicate (5 - (lg_sl ([.ref a0, .int (nI j), .int (w)])).length) Slot.unset).toArray = ls at hl ⊢
  have hl : lv_has ls 5 [(0, .ref a0), (1, .int (nI j)), (2, .int (w))] := hl
  refine lv_aload_n hx hb dX0_token_0 rfl (lv_at hl 0 rfl) ?_
  refine lv_iload_n hx hb dX0_token_1 rfl (lv_at hl 1 rfl) ?_
  refine vp_callSi (va_Run.run (va_runV (As := [.int (nI j)]) (rest := []) ⟨hx, hb, hml, hown, hts⟩ (c_isAtHand_in l dC dI cA a0 a1 a2 Z T K j h9 hj) (cwV 1 hts (gV (fun _ h => h) ml_X0_71 im_X0_isAtHand se_X0_isAtHand ini_X0 co_X0_isAtHand) rfl rfl rfl pd_X0_isAtHand ⟨Nat.le_of_ble_eq_true rfl, Nat.le_of_ble_eq_true rfl⟩) (lm_preR hK hP) rfl rfl hl.1 rfl (lv_room (Nat.le_of_ble_eq_true rfl)) dX0_token_2 ⟨Nat.zero_le _, Nat.zero_le _⟩)) (fun r_1 (e_2 : r_1 = nI 1) => ?_)
  subst e_2
  refine lv_if_ne (tgt := 10) hx hb dX0_token_5 (by decide) (fun c_3 => ?_) (fun c_3 => ?_)
  · have c_3 := mt (nI_eq (a := 1) (b := 0) (by omega) (by omega)).mpr c_3
    refine lv_aload_n hx hb dX0_token_10 rfl (lv_at hl 0 rfl) ?_
    refine va_get (D := (dC, dI)) (ci := 0) (v := .ref a2) (C := RX0) (T := TX0) (N := 16) hx hb hts inX0 hown hK hP 0 rfl rfl 1 (by decide) (hts _ fl_X0_13) (fun _ h9 => h9) rfl dX0_token_11 ?_
    refine lv_iload_n hx hb dX0_token_14 rfl (lv_at hl 1 rfl) ?_
    refine va_lald hx hb hK hP 2 0 rfl rfl (vp_in_nI (by omega) (by decide)) dX0_token_15 ?_
    refine lv_topl (fun x_4 e_5 => ?_)
    obtain rfl : x_4 = lN (tn (K j)) := e_5.trans (by rw [nI_clamp (by omega), tn_lN])
    refine lv_lstore_n (lv' := [(3, .long (lN (tn (K j)))), (0, .ref a0), (1, .int (nI j)), (2, .int (w))]) hx hb dX0_token_16 rfl hl (by decide) rfl (fun ls hl => ?_)
    refine lv_iload_n hx hb dX0_token_17 rfl (lv_at hl 3 rfl) ?_
    rcases sw_4 w with rfl | rfl | rfl | rfl | rfl | hsw
    · refine lv_tableIn (tgt := 52) hx hb dX0_token_18 (by decide) (by decide) rfl (by decide) ?_
      refine lv_lload_n hx hb dX0_token_52 rfl (lv_at hl 0 rfl) ?_
      refine lv_bipush (v := nI 48) hx hb dX0_token_53 (by decide) ?_
      refine lv_lushr (v := lN ((tn (K j)) / 2 ^ 48)) hx hb dX0_token_55 (wb_shr (by first | exact tn_lt _ | omega) (by omega)) ?_
      refine lv_l2i (v := nI ((tn (K j)) / 2 ^ 48)) hx hb dX0_token_56 (lN_i _) ?_
      refine lv_bipush (v := nI 15) hx hb dX0_token_57 (by decide) ?_
      refine lv_iand hx hb dX0_token_59 ?_
      refine lv_topi (fun x_6 e_7 => ?_)
      obtain rfl : x_6 = nI (((tn (K j)) / 2 ^ 48) % 16) := e_7.trans (nI_mask ((tn (K j)) / 2 ^ 48) 4 (by decide) (by decide))
      exact W.iret (v := nI (((tn (K j)) / 2 ^ 48) % 16)) hx hb hr (fun t ht hW => ⟨_, rfl, (by rw [tkA, if_pos rfl]; rfl), ht⟩) (fun q h => by cases h) dX0_token_60
    · refine lv_tableIn (tgt := 61) hx hb dX0_token_18 (by decide) (by decide) rfl (by decide) ?_
      refine lv_lload_n hx hb dX0_token_61 rfl (lv_at hl 0 rfl) ?_
      refine lv_bipush (v := nI 32) hx hb dX0_token_62 (by decide) ?_
      refine lv_lushr (v := lN ((tn (K j)) / 2 ^ 32)) hx hb dX0_token_64 (wb_shr (by first | exact tn_lt _ | omega) (by omega)) ?_
      refine lv_l2i (v := nI ((tn (K j)) / 2 ^ 32)) hx hb dX0_token_65 (lN_i _) ?_
      refine lv_ldc (v := nI 65535) hx hb hown (hts _ cn_X0_75) dX0_token_66 ?_
      refine lv_iand hx hb dX0_token_68 ?_
      refine lv_topi (fun x_8 e_9 => ?_)
      obtain rfl : x_8 = nI (((tn (K j)) / 2 ^ 32) % 65536) := e_9.trans (nI_mask ((tn (K j)) / 2 ^ 32) 16 (by decide) (by decide))
      exact W.iret (v := nI (((tn (K j)) / 2 ^ 32) % 65536)) hx hb hr (fun t ht hW => ⟨_, rfl, (by rw [tkA, if_neg (by decide), if_pos rfl]; rfl), ht⟩) (fun q h => by cases h) dX0_token_69
    · refine lv_tableIn (tgt := 70) hx hb dX0_token_18 (by decide) (by decide) rfl (by decide) ?_
      refine lv_lload_n hx hb dX0_token_70 rfl (lv_at hl 0 rfl) ?_
      refine vp_callSi (va_Run.run (va_runS (As := [.long (lN (tn (K j)))]) (rest := []) ⟨hx, hb, hml, hown, hts⟩ (c_bytesOf l (tn (K j)) (tn_lt _)) (cwS 1 hts (gS (fun _ h => h) ml_X0_76 sm_X0_bytesOf ini_X0 co_X0_bytesOf) rfl rfl rfl pd_X0_bytesOf ⟨Nat.le_of_ble_eq_true rfl, Nat.le_of_ble_eq_true rfl⟩) st_pre rfl rfl hl.1 rfl (lv_room (Nat.le_of_ble_eq_true rfl)) dX0_token_71 ⟨Nat.zero_le _, Nat.zero_le _⟩)) (fun r_10 (e_11 : r_10 = nI ((tn (K j)) / 2 ^ 16 % 65536)) => ?_)
      subst e_11
      exact W.iret (v := nI ((tn (K j)) / 2 ^ 16 % 65536)) hx hb hr (fun t ht hW => ⟨_, rfl, (by rw [tkA, if_neg (by decide), if_neg (by decide), if_pos rfl]; rfl), ht⟩) (fun q h => by cases h) dX0_token_74
    · refine lv_tableIn (tgt := 75) hx hb dX0_token_18 (by decide) (by decide) rfl (by decide) ?_
      refine lv_lload_n hx hb dX0_token_75 rfl (lv_at hl 0 rfl) ?_
      refine lv_bipush (v := nI 52) hx hb dX0_token_76 (by decide) ?_
      refine lv_lushr (v := lN ((tn (K j)) / 2 ^ 52)) hx hb dX0_token_78 (wb_shr (by first | exact tn_lt _ | omega) (by omega)) ?_
      refine lv_l2i (v := nI ((tn (K j)) / 2 ^ 52)) hx hb dX0_token_79 (lN_i _) ?_
      refine lv_iconst (v := nI 1) hx hb dX0_token_80 (by decide) ?_
      refine lv_iand hx hb dX0_token_81 ?_
      refine lv_topi (fun x_12 e_13 => ?_)
      obtain rfl : x_12 = nI (((tn (K j)) / 2 ^ 52) % 2) := e_13.trans (nI_mask ((tn (K j)) / 2 ^ 52) 1 (by decide) (by decide))
      exact W.iret (v := nI (((tn (K j)) / 2 ^ 52) % 2)) hx hb hr (fun t ht hW => ⟨_, rfl, (by rw [tkA, if_neg (by decide), if_neg (by decide), if_neg (by decide), if_pos rfl]; rfl), ht⟩) (fun q h => by cases h) dX0_token_82
    · refine lv_tableIn (tgt := 83) hx hb dX0_token_18 (by decide) (by decide) rfl (by decide) ?_
      refine lv_iload_n hx hb dX0_token_83 rfl (lv_at hl 2 rfl) ?_
      refine lv_if_ne (tgt := 91) hx hb dX0_token_84 (by decide) (fun c_14 => ?_) (fun c_14 => ?_)
      · have c_14 := mt (nI_eq (a := j) (b := 0) (by omega) (by omega)).mpr c_14
        refine lv_iconst (v := nI 0) hx hb dX0_token_91 (by decide) ?_
        exact W.iret (v := nI 0) hx hb hr (fun t ht hW => ⟨_, rfl, (by rw [tkA, if_neg (by decide), if_neg (by decide), if_neg (by decide), if_neg (by decide), if_pos rfl, if_neg (by omega)]), ht⟩) (fun q h => by cases h) dX0_token_92
      · have c_14 := (nI_eq (a := j) (b := 0) (by omega) (by omega)).mp c_14
        refine lv_iconst (v := nI 1) hx hb dX0_token_87 (by decide) ?_
        refine lv_goto (tgt := 92) hx hb dX0_token_88 (by decide) ?_
        exact W.iret (v := nI 1) hx hb hr (fun t ht hW => ⟨_, rfl, (by rw [tkA, if_neg (by decide), if_neg (by decide), if_neg (by decide), if_neg (by decide), if_pos rfl, if_pos (by omega)]), ht⟩) (fun q h => by cases h) dX0_token_92
    · refine lv_tableOut (tgt := 93) hx hb dX0_token_18 hsw (by decide) ?_
      refine lv_iconst (v := (-1)) hx hb dX0_token_93 (by decide) ?_
      exact W.iret (v := (-1)) hx hb hr (fun t ht hW => ⟨_, rfl, (by rw [tkA, if_neg (fun z => by rw [z] at hsw; revert hsw; decide), if_neg (fun z => by rw [z] at hsw; revert hsw; decide), if_neg (fun z => by rw [z] at hsw; revert hsw; decide), if_neg (fun z => by rw [z] at hsw; revert hsw; decide), if_neg (fun z => by rw [z] at hsw; revert hsw; decide)]), ht⟩) (fun q h => by cases h) dX0_token_94
  · have c_3 := (nI_eq (a := 1) (b := 0) (by omega) (by omega)).mp c_3
    omega
end
