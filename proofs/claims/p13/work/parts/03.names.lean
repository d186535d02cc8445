def RXB : String := "GradeTexts$Book"
def RXP : String := "GradeTexts$Page"
def RXR : String := "GradeTexts$Reader"
def RXT : String := "GradeTexts$Tape"
def RXG : String := "GradeTexts"
def RXM : String := "GradeTextsModel"
def RXL : String := "GradeTextsLaw"
def RXA : String := "java/util/Arrays"
def RXI : String := "java/lang/Integer"
def RXO : String := "java/lang/Object"
def TXB : u_T := fun k => match k with
  | 0 => ("GradeTexts$Book", "toldParents", "[I", true)
  | 1 => ("GradeTexts$Book", "parents", "[I", true)
  | 2 => ("GradeTexts$Book", "lows", "[I", true)
  | 3 => ("GradeTexts$Book", "highs", "[I", true)
  | 4 => ("GradeTexts$Book", "limits", "[I", true)
  | 5 => ("GradeTexts$Book", "routes", "[I", true)
  | 6 => ("GradeTexts$Book", "divisors", "[I", true)
  | 7 => ("GradeTexts$Book", "grades", "I", false)
  | _ => ("GradeTexts$Book", "formulas", "I", false)
def tyXB : Nat → FieldType := fun k => match k with
  | 0 => .array .int
  | 1 => .array .int
  | 2 => .array .int
  | 3 => .array .int
  | 4 => .array .int
  | 5 => .array .int
  | 6 => .array .int
  | 7 => .int
  | _ => .int
theorem nXB : ∀ a, a < 9 → ∀ b, b < 9 → a ≠ b → (TXB a).2.1 ≠ (TXB b).2.1 := by decide +kernel
theorem tyXB_ok : ∀ k, k < 9 → parseFieldDescriptor (TXB k).2.2.1 = some (tyXB k) := by decide +kernel
theorem inXB : ∀ w ∈ u_ws RXB TXB 9, w ∈ TBL := jall (by decide +kernel)
def TXP : u_T := fun k => match k with
  | 0 => ("GradeTexts$Page", "signs", "[I", true)
  | _ => ("GradeTexts$Page", "length", "I", false)
def tyXP : Nat → FieldType := fun k => match k with
  | 0 => .array .int
  | _ => .int
theorem nXP : ∀ a, a < 2 → ∀ b, b < 2 → a ≠ b → (TXP a).2.1 ≠ (TXP b).2.1 := by decide +kernel
theorem tyXP_ok : ∀ k, k < 2 → parseFieldDescriptor (TXP k).2.2.1 = some (tyXP k) := by decide +kernel
theorem inXP : ∀ w ∈ u_ws RXP TXP 2, w ∈ TBL := jall (by decide +kernel)
def TXR : u_T := fun k => match k with
  | _ => ("GradeTexts$Reader", "tape", "LGradeTexts$Tape;", true)
def tyXR : Nat → FieldType := fun k => match k with
  | _ => .object "GradeTexts$Tape"
theorem nXR : ∀ a, a < 1 → ∀ b, b < 1 → a ≠ b → (TXR a).2.1 ≠ (TXR b).2.1 := by decide +kernel
theorem tyXR_ok : ∀ k, k < 1 → parseFieldDescriptor (TXR k).2.2.1 = some (tyXR k) := by decide +kernel
theorem inXR : ∀ w ∈ u_ws RXR TXR 1, w ∈ TBL := jall (by decide +kernel)
def TXT : u_T := fun k => match k with
  | 0 => ("GradeTexts$Tape", "signs", "[I", true)
  | 1 => ("GradeTexts$Tape", "length", "I", false)
  | 2 => ("GradeTexts$Tape", "place", "I", false)
  | _ => ("GradeTexts$Tape", "wrong", "I", false)
def tyXT : Nat → FieldType := fun k => match k with
  | 0 => .array .int
  | 1 => .int
  | 2 => .int
  | _ => .int
theorem nXT : ∀ a, a < 4 → ∀ b, b < 4 → a ≠ b → (TXT a).2.1 ≠ (TXT b).2.1 := by decide +kernel
theorem tyXT_ok : ∀ k, k < 4 → parseFieldDescriptor (TXT k).2.2.1 = some (tyXT k) := by decide +kernel
theorem inXT : ∀ w ∈ u_ws RXT TXT 4, w ∈ TBL := jall (by decide +kernel)
def TXG : u_T := fun k => match k with
  | 0 => ("GradeTexts", "tape", "LGradeTexts$Tape;", true)
  | 1 => ("GradeTexts", "reader", "LGradeTexts$Reader;", true)
  | 2 => ("GradeTexts", "page", "LGradeTexts$Page;", true)
  | 3 => ("GradeTexts", "shares", "[I", true)
  | 4 => ("GradeTexts", "ends", "[I", true)
  | 5 => ("GradeTexts", "book", "LGradeTexts$Book;", false)
  | _ => ("GradeTexts", "spare", "LGradeTexts$Book;", false)
def tyXG : Nat → FieldType := fun k => match k with
  | 0 => .object "GradeTexts$Tape"
  | 1 => .object "GradeTexts$Reader"
  | 2 => .object "GradeTexts$Page"
  | 3 => .array .int
  | 4 => .array .int
  | 5 => .object "GradeTexts$Book"
  | _ => .object "GradeTexts$Book"
theorem nXG : ∀ a, a < 7 → ∀ b, b < 7 → a ≠ b → (TXG a).2.1 ≠ (TXG b).2.1 := by decide +kernel
theorem tyXG_ok : ∀ k, k < 7 → parseFieldDescriptor (TXG k).2.2.1 = some (tyXG k) := by decide +kernel
theorem inXG : ∀ w ∈ u_ws RXG TXG 7, w ∈ TBL := jall (by decide +kernel)
def TXM : u_T := fun k => match k with
  | 0 => ("GradeTextsModel", "thrown", "I", false)
  | 1 => ("GradeTextsModel", "taped", "I", false)
  | 2 => ("GradeTextsModel", "tape", "[I", true)
  | 3 => ("GradeTextsModel", "at", "I", false)
  | 4 => ("GradeTextsModel", "wrong", "I", false)
  | 5 => ("GradeTextsModel", "isGrade", "[Z", true)
  | 6 => ("GradeTextsModel", "parent", "[I", true)
  | 7 => ("GradeTextsModel", "isSpan", "[Z", true)
  | 8 => ("GradeTextsModel", "low", "[I", true)
  | 9 => ("GradeTextsModel", "high", "[I", true)
  | 10 => ("GradeTextsModel", "routes", "[I", true)
  | 11 => ("GradeTextsModel", "limit", "[I", true)
  | 12 => ("GradeTextsModel", "isFormula", "[Z", true)
  | 13 => ("GradeTextsModel", "divisor", "[I", true)
  | 14 => ("GradeTextsModel", "hand", "[I", true)
  | 15 => ("GradeTextsModel", "up", "J", false)
  | 16 => ("GradeTextsModel", "down", "J", false)
  | 17 => ("GradeTextsModel", "printed", "I", false)
  | _ => ("GradeTextsModel", "out", "[I", true)
def tyXM : Nat → FieldType := fun k => match k with
  | 0 => .int
  | 1 => .int
  | 2 => .array .int
  | 3 => .int
  | 4 => .int
  | 5 => .array .boolean
  | 6 => .array .int
  | 7 => .array .boolean
  | 8 => .array .int
  | 9 => .array .int
  | 10 => .array .int
  | 11 => .array .int
  | 12 => .array .boolean
  | 13 => .array .int
  | 14 => .array .int
  | 15 => .long
  | 16 => .long
  | 17 => .int
  | _ => .array .int
theorem nXM : ∀ a, a < 19 → ∀ b, b < 19 → a ≠ b → (TXM a).2.1 ≠ (TXM b).2.1 := by decide +kernel
theorem tyXM_ok : ∀ k, k < 19 → parseFieldDescriptor (TXM k).2.2.1 = some (tyXM k) := by decide +kernel
theorem inXM : ∀ w ∈ u_ws RXM TXM 19, w ∈ TBL := jall (by decide +kernel)
abbrev cXG_init : ByteArray := prog_1_method_1_code
def yXG_init : MethodName := ⟨RXG, "<init>", "()V"⟩
abbrev cXO_init : ByteArray := object_method_1_code
def yXO_init : MethodName := ⟨RXO, "<init>", "()V"⟩
abbrev cXT_init : ByteArray := prog_5_method_1_code
def yXT_init : MethodName := ⟨RXT, "<init>", "()V"⟩
abbrev cXR_init : ByteArray := prog_4_method_1_code
def yXR_init : MethodName := ⟨RXR, "<init>", "(LGradeTexts$Tape;)V"⟩
abbrev cXP_init : ByteArray := prog_3_method_1_code
def yXP_init : MethodName := ⟨RXP, "<init>", "()V"⟩
abbrev cXB_init : ByteArray := prog_2_method_1_code
def yXB_init : MethodName := ⟨RXB, "<init>", "()V"⟩
abbrev cXG_read : ByteArray := prog_1_method_3_code
def yXG_read : MethodName := ⟨RXG, "read", "()I"⟩
abbrev cXB_forget : ByteArray := prog_2_method_2_code
def yXB_forget : MethodName := ⟨RXB, "forget", "()V"⟩
abbrev cXA_fill : ByteArray := prog_17_method_103_code
def yXA_fill : MethodName := ⟨RXA, "fill", "([II)V"⟩
abbrev cXR_text : ByteArray := prog_4_method_2_code
def yXR_text : MethodName := ⟨RXR, "text", "(LGradeTexts$Book;)Z"⟩
abbrev cXT_rewind : ByteArray := prog_5_method_5_code
def yXT_rewind : MethodName := ⟨RXT, "rewind", "()V"⟩
abbrev cXT_next : ByteArray := prog_5_method_10_code
def yXT_next : MethodName := ⟨RXT, "next", "()I"⟩
abbrev cXR_row : ByteArray := prog_4_method_3_code
def yXR_row : MethodName := ⟨RXR, "row", "(LGradeTexts$Book;)Z"⟩
abbrev cXT_skipIf : ByteArray := prog_5_method_11_code
def yXT_skipIf : MethodName := ⟨RXT, "skipIf", "(I)Z"⟩
abbrev cXR_formula : ByteArray := prog_4_method_4_code
def yXR_formula : MethodName := ⟨RXR, "formula", "(LGradeTexts$Book;)Z"⟩
abbrev cXT_takeOneOf : ByteArray := prog_5_method_13_code
def yXT_takeOneOf : MethodName := ⟨RXT, "takeOneOf", "(II)I"⟩
abbrev cXT_refuse : ByteArray := prog_5_method_7_code
def yXT_refuse : MethodName := ⟨RXT, "refuse", "()Z"⟩
abbrev cXB_hasFormula : ByteArray := prog_2_method_5_code
def yXB_hasFormula : MethodName := ⟨RXB, "hasFormula", "(I)Z"⟩
abbrev cXG_hasBit : ByteArray := prog_1_method_23_code
def yXG_hasBit : MethodName := ⟨RXG, "hasBit", "(II)Z"⟩
abbrev cXT_refuseLast : ByteArray := prog_5_method_8_code
def yXT_refuseLast : MethodName := ⟨RXT, "refuseLast", "()Z"⟩
abbrev cXB_tellFormula : ByteArray := prog_2_method_9_code
def yXB_tellFormula : MethodName := ⟨RXB, "tellFormula", "(I)V"⟩
abbrev cXT_take : ByteArray := prog_5_method_12_code
def yXT_take : MethodName := ⟨RXT, "take", "(I)Z"⟩
abbrev cXR_terms : ByteArray := prog_4_method_5_code
def yXR_terms : MethodName := ⟨RXR, "terms", "(LGradeTexts$Book;I)Z"⟩
abbrev cXB_divisorOf : ByteArray := prog_2_method_6_code
def yXB_divisorOf : MethodName := ⟨RXB, "divisorOf", "(II)I"⟩
abbrev cXT_number : ByteArray := prog_5_method_14_code
def yXT_number : MethodName := ⟨RXT, "number", "(II)I"⟩
abbrev cXG_isDigit : ByteArray := prog_1_method_24_code
def yXG_isDigit : MethodName := ⟨RXG, "isDigit", "(I)Z"⟩
abbrev cXT_here : ByteArray := prog_5_method_9_code
def yXT_here : MethodName := ⟨RXT, "here", "()I"⟩
abbrev cXB_tellTerm : ByteArray := prog_2_method_10_code
def yXB_tellTerm : MethodName := ⟨RXB, "tellTerm", "(III)V"⟩
abbrev cXR_grade : ByteArray := prog_4_method_6_code
def yXR_grade : MethodName := ⟨RXR, "grade", "(LGradeTexts$Book;)Z"⟩
abbrev cXB_knows : ByteArray := prog_2_method_4_code
def yXB_knows : MethodName := ⟨RXB, "knows", "(I)Z"⟩
abbrev cXB_tellGrade : ByteArray := prog_2_method_11_code
def yXB_tellGrade : MethodName := ⟨RXB, "tellGrade", "(I)V"⟩
abbrev cXR_parent : ByteArray := prog_4_method_7_code
def yXR_parent : MethodName := ⟨RXR, "parent", "(LGradeTexts$Book;I)Z"⟩
abbrev cXB_tellParent : ByteArray := prog_2_method_12_code
def yXB_tellParent : MethodName := ⟨RXB, "tellParent", "(II)V"⟩
abbrev cXR_spans : ByteArray := prog_4_method_8_code
def yXR_spans : MethodName := ⟨RXR, "spans", "(LGradeTexts$Book;I)Z"⟩
abbrev cXG_isElement : ByteArray := prog_1_method_25_code
def yXG_isElement : MethodName := ⟨RXG, "isElement", "(I)Z"⟩
abbrev cXB_tellsSpan : ByteArray := prog_2_method_7_code
def yXB_tellsSpan : MethodName := ⟨RXB, "tellsSpan", "(II)Z"⟩
abbrev cXB_tellSpan : ByteArray := prog_2_method_13_code
def yXB_tellSpan : MethodName := ⟨RXB, "tellSpan", "(IIII)V"⟩
abbrev cXR_routes : ByteArray := prog_4_method_9_code
def yXR_routes : MethodName := ⟨RXR, "routes", "(LGradeTexts$Book;I)Z"⟩
abbrev cXB_tellRoute : ByteArray := prog_2_method_14_code
def yXB_tellRoute : MethodName := ⟨RXB, "tellRoute", "(II)V"⟩
abbrev cXR_limits : ByteArray := prog_4_method_10_code
def yXR_limits : MethodName := ⟨RXR, "limits", "(LGradeTexts$Book;I)Z"⟩
abbrev cXB_tellsLimit : ByteArray := prog_2_method_8_code
def yXB_tellsLimit : MethodName := ⟨RXB, "tellsLimit", "(II)Z"⟩
abbrev cXB_tellLimit : ByteArray := prog_2_method_15_code
def yXB_tellLimit : MethodName := ⟨RXB, "tellLimit", "(III)V"⟩
abbrev cXT_empty : ByteArray := prog_5_method_4_code
def yXT_empty : MethodName := ⟨RXT, "empty", "()V"⟩
abbrev cXT_wrongPlace : ByteArray := prog_5_method_6_code
def yXT_wrongPlace : MethodName := ⟨RXT, "wrongPlace", "()I"⟩
abbrev cXB_settle : ByteArray := prog_2_method_16_code
def yXB_settle : MethodName := ⟨RXB, "settle", "()V"⟩
abbrev cXB_onRing : ByteArray := prog_2_method_17_code
def yXB_onRing : MethodName := ⟨RXB, "onRing", "(I)Z"⟩
abbrev cXB_count : ByteArray := prog_2_method_3_code
def yXB_count : MethodName := ⟨RXB, "count", "()I"⟩
abbrev cXI_bitCount : ByteArray := prog_12_method_49_code
def yXI_bitCount : MethodName := ⟨RXI, "bitCount", "(I)I"⟩
abbrev cXG_clear : ByteArray := prog_1_method_16_code
def yXG_clear : MethodName := ⟨RXG, "clear", "()V"⟩
abbrev cXL_sign : ByteArray := method_3_code
def yXL_sign : MethodName := ⟨RXL, "sign", "(LGradeTexts;JI[J)I"⟩
abbrev cXG_sign : ByteArray := prog_1_method_2_code
def yXG_sign : MethodName := ⟨RXG, "sign", "(JI)I"⟩
abbrev cXT_hasRoom : ByteArray := prog_5_method_2_code
def yXT_hasRoom : MethodName := ⟨RXT, "hasRoom", "(I)Z"⟩
abbrev cXT_append : ByteArray := prog_5_method_3_code
def yXT_append : MethodName := ⟨RXT, "append", "(JI)I"⟩
abbrev cXL_span : ByteArray := method_4_code
def yXL_span : MethodName := ⟨RXL, "span", "(LGradeTexts;III[J)I"⟩
abbrev cXG_span : ByteArray := prog_1_method_4_code
def yXG_span : MethodName := ⟨RXG, "span", "(III)I"⟩
abbrev cXG_needGrade : ByteArray := prog_1_method_17_code
def yXG_needGrade : MethodName := ⟨RXG, "needGrade", "(I)V"⟩
abbrev cXG_needBelow : ByteArray := prog_1_method_18_code
def yXG_needBelow : MethodName := ⟨RXG, "needBelow", "(II)V"⟩
abbrev cXB_endOf : ByteArray := prog_2_method_18_code
def yXB_endOf : MethodName := ⟨RXB, "endOf", "(III)I"⟩
abbrev cXL_limit : ByteArray := method_5_code
def yXL_limit : MethodName := ⟨RXL, "limit", "(LGradeTexts;II[J)I"⟩
abbrev cXG_limit : ByteArray := prog_1_method_5_code
def yXG_limit : MethodName := ⟨RXG, "limit", "(II)I"⟩
abbrev cXB_limitOf : ByteArray := prog_2_method_19_code
def yXB_limitOf : MethodName := ⟨RXB, "limitOf", "(II)I"⟩
abbrev cXL_equivalent : ByteArray := method_6_code
def yXL_equivalent : MethodName := ⟨RXL, "equivalent", "(LGradeTexts;IIII[J)I"⟩
abbrev cXG_equivalent : ByteArray := prog_1_method_6_code
def yXG_equivalent : MethodName := ⟨RXG, "equivalent", "(IIII)J"⟩
abbrev cXG_needFormula : ByteArray := prog_1_method_20_code
def yXG_needFormula : MethodName := ⟨RXG, "needFormula", "(I)V"⟩
abbrev cXB_copyEnds : ByteArray := prog_2_method_21_code
def yXB_copyEnds : MethodName := ⟨RXB, "copyEnds", "(II[I)V"⟩
abbrev cXB_scaledSum : ByteArray := prog_2_method_22_code
def yXB_scaledSum : MethodName := ⟨RXB, "scaledSum", "(I[I)J"⟩
abbrev cXG_inLowestTerms : ByteArray := prog_1_method_21_code
def yXG_inLowestTerms : MethodName := ⟨RXG, "inLowestTerms", "(JI)J"⟩
abbrev cXG_greatestDivisor : ByteArray := prog_1_method_22_code
def yXG_greatestDivisor : MethodName := ⟨RXG, "greatestDivisor", "(JJ)J"⟩
abbrev cXL_share : ByteArray := method_7_code
def yXL_share : MethodName := ⟨RXL, "share", "(LGradeTexts;II)I"⟩
abbrev cXG_share : ByteArray := prog_1_method_7_code
def yXG_share : MethodName := ⟨RXG, "share", "(II)V"⟩
abbrev cXL_value : ByteArray := method_8_code
def yXL_value : MethodName := ⟨RXL, "value", "(LGradeTexts;II[J)I"⟩
abbrev cXG_value : ByteArray := prog_1_method_8_code
def yXG_value : MethodName := ⟨RXG, "value", "(II)J"⟩
abbrev cXL_fits : ByteArray := method_9_code
def yXL_fits : MethodName := ⟨RXL, "fits", "(LGradeTexts;I[J)I"⟩
abbrev cXG_fits : ByteArray := prog_1_method_9_code
def yXG_fits : MethodName := ⟨RXG, "fits", "(I)I"⟩
abbrev cXB_firstKindAbove : ByteArray := prog_2_method_23_code
def yXB_firstKindAbove : MethodName := ⟨RXB, "firstKindAbove", "(I[I)I"⟩
abbrev cXL_holds : ByteArray := method_10_code
def yXL_holds : MethodName := ⟨RXL, "holds", "(LGradeTexts;II[J)I"⟩
abbrev cXG_holds : ByteArray := prog_1_method_10_code
def yXG_holds : MethodName := ⟨RXG, "holds", "(II)Z"⟩
abbrev cXL_ring : ByteArray := method_11_code
def yXL_ring : MethodName := ⟨RXL, "ring", "(LGradeTexts;I[J)I"⟩
abbrev cXG_ring : ByteArray := prog_1_method_11_code
def yXG_ring : MethodName := ⟨RXG, "ring", "(I)I"⟩
abbrev cXG_needPlace : ByteArray := prog_1_method_19_code
def yXG_needPlace : MethodName := ⟨RXG, "needPlace", "(I)V"⟩
abbrev cXL_route : ByteArray := method_12_code
def yXL_route : MethodName := ⟨RXL, "route", "(LGradeTexts;II[J)I"⟩
abbrev cXG_route : ByteArray := prog_1_method_12_code
def yXG_route : MethodName := ⟨RXG, "route", "(II)I"⟩
abbrev cXB_routesOf : ByteArray := prog_2_method_20_code
def yXB_routesOf : MethodName := ⟨RXB, "routesOf", "(I)I"⟩
abbrev cXL_difference : ByteArray := method_13_code
def yXL_difference : MethodName := ⟨RXL, "difference", "(LGradeTexts;III[J)I"⟩
abbrev cXG_difference : ByteArray := prog_1_method_13_code
def yXG_difference : MethodName := ⟨RXG, "difference", "(III)I"⟩
abbrev cXL_write : ByteArray := method_14_code
def yXL_write : MethodName := ⟨RXL, "write", "(LGradeTexts;I[J)I"⟩
abbrev cXG_write : ByteArray := prog_1_method_14_code
def yXG_write : MethodName := ⟨RXG, "write", "(I)I"⟩
abbrev cXP_start : ByteArray := prog_3_method_2_code
def yXP_start : MethodName := ⟨RXP, "start", "()V"⟩
abbrev cXB_printRow : ByteArray := prog_2_method_24_code
def yXB_printRow : MethodName := ⟨RXB, "printRow", "(ILGradeTexts$Page;)V"⟩
abbrev cXP_put : ByteArray := prog_3_method_5_code
def yXP_put : MethodName := ⟨RXP, "put", "(I)V"⟩
abbrev cXP_putNumber : ByteArray := prog_3_method_6_code
def yXP_putNumber : MethodName := ⟨RXP, "putNumber", "(I)V"⟩
abbrev cXB_printSpans : ByteArray := prog_2_method_25_code
def yXB_printSpans : MethodName := ⟨RXB, "printSpans", "(ILGradeTexts$Page;)V"⟩
abbrev cXB_printRoutes : ByteArray := prog_2_method_26_code
def yXB_printRoutes : MethodName := ⟨RXB, "printRoutes", "(ILGradeTexts$Page;)V"⟩
abbrev cXB_printLimits : ByteArray := prog_2_method_27_code
def yXB_printLimits : MethodName := ⟨RXB, "printLimits", "(ILGradeTexts$Page;)V"⟩
abbrev cXP_length : ByteArray := prog_3_method_3_code
def yXP_length : MethodName := ⟨RXP, "length", "()I"⟩
abbrev cXL_at : ByteArray := method_15_code
def yXL_at : MethodName := ⟨RXL, "at", "(LGradeTexts;I[J)I"⟩
abbrev cXG_at : ByteArray := prog_1_method_15_code
def yXG_at : MethodName := ⟨RXG, "at", "(I)I"⟩
abbrev cXP_byteAt : ByteArray := prog_3_method_4_code
def yXP_byteAt : MethodName := ⟨RXP, "byteAt", "(I)I"⟩
abbrev cXM_init : ByteArray := prog_7_method_1_code
def yXM_init : MethodName := ⟨RXM, "<init>", "()V"⟩
abbrev cXM_thrown : ByteArray := prog_7_method_2_code
def yXM_thrown : MethodName := ⟨RXM, "thrown", "()I"⟩
abbrev cXM_sign : ByteArray := prog_7_method_8_code
def yXM_sign : MethodName := ⟨RXM, "sign", "(JI)I"⟩
abbrev cXM_in : ByteArray := prog_7_method_3_code
def yXM_in : MethodName := ⟨RXM, "in", "(III)Z"⟩
abbrev cXM_goes : ByteArray := prog_7_method_4_code
def yXM_goes : MethodName := ⟨RXM, "goes", "(ZZ)Z"⟩
abbrev cXM_read : ByteArray := prog_7_method_23_code
def yXM_read : MethodName := ⟨RXM, "read", "()I"⟩
abbrev cXM_forget : ByteArray := prog_7_method_21_code
def yXM_forget : MethodName := ⟨RXM, "forget", "(I)V"⟩
abbrev cXM_see : ByteArray := prog_7_method_10_code
def yXM_see : MethodName := ⟨RXM, "see", "()I"⟩
abbrev cXM_here : ByteArray := prog_7_method_9_code
def yXM_here : MethodName := ⟨RXM, "here", "()I"⟩
abbrev cXM_takes : ByteArray := prog_7_method_13_code
def yXM_takes : MethodName := ⟨RXM, "takes", "(I)Z"⟩
abbrev cXM_formula : ByteArray := prog_7_method_17_code
def yXM_formula : MethodName := ⟨RXM, "formula", "()V"⟩
abbrev cXM_number : ByteArray := prog_7_method_15_code
def yXM_number : MethodName := ⟨RXM, "number", "(II)I"⟩
abbrev cXM_isDigit : ByteArray := prog_7_method_14_code
def yXM_isDigit : MethodName := ⟨RXM, "isDigit", "()Z"⟩
abbrev cXM_fail : ByteArray := prog_7_method_11_code
def yXM_fail : MethodName := ⟨RXM, "fail", "(I)V"⟩
abbrev cXM_take : ByteArray := prog_7_method_12_code
def yXM_take : MethodName := ⟨RXM, "take", "(I)V"⟩
abbrev cXM_element : ByteArray := prog_7_method_16_code
def yXM_element : MethodName := ⟨RXM, "element", "(I)I"⟩
abbrev cXM_grade : ByteArray := prog_7_method_20_code
def yXM_grade : MethodName := ⟨RXM, "grade", "()V"⟩
abbrev cXM_spans : ByteArray := prog_7_method_18_code
def yXM_spans : MethodName := ⟨RXM, "spans", "(I)V"⟩
abbrev cXM_routeRow : ByteArray := prog_7_method_19_code
def yXM_routeRow : MethodName := ⟨RXM, "routeRow", "()I"⟩
abbrev cXM_copy : ByteArray := prog_7_method_22_code
def yXM_copy : MethodName := ⟨RXM, "copy", "()V"⟩
abbrev cXM_span : ByteArray := prog_7_method_29_code
def yXM_span : MethodName := ⟨RXM, "span", "(III)I"⟩
abbrev cXM_isTold : ByteArray := prog_7_method_5_code
def yXM_isTold : MethodName := ⟨RXM, "isTold", "(I)Z"⟩
abbrev cXM_isElement : ByteArray := prog_7_method_6_code
def yXM_isElement : MethodName := ⟨RXM, "isElement", "(I)Z"⟩
abbrev cXM_lowOf : ByteArray := prog_7_method_26_code
def yXM_lowOf : MethodName := ⟨RXM, "lowOf", "(II)I"⟩
abbrev cXM_from : ByteArray := prog_7_method_25_code
def yXM_from : MethodName := ⟨RXM, "from", "(I)I"⟩
abbrev cXM_isRing : ByteArray := prog_7_method_24_code
def yXM_isRing : MethodName := ⟨RXM, "isRing", "(I)Z"⟩
abbrev cXM_highOf : ByteArray := prog_7_method_27_code
def yXM_highOf : MethodName := ⟨RXM, "highOf", "(II)I"⟩
abbrev cXM_limit : ByteArray := prog_7_method_30_code
def yXM_limit : MethodName := ⟨RXM, "limit", "(II)I"⟩
abbrev cXM_isKind : ByteArray := prog_7_method_7_code
def yXM_isKind : MethodName := ⟨RXM, "isKind", "(I)Z"⟩
abbrev cXM_limitOf : ByteArray := prog_7_method_28_code
def yXM_limitOf : MethodName := ⟨RXM, "limitOf", "(II)I"⟩
abbrev cXM_equivalent : ByteArray := prog_7_method_33_code
def yXM_equivalent : MethodName := ⟨RXM, "equivalent", "(IIII)J"⟩
abbrev cXM_reckon : ByteArray := prog_7_method_32_code
def yXM_reckon : MethodName := ⟨RXM, "reckon", "(III)V"⟩
abbrev cXM_adds : ByteArray := prog_7_method_31_code
def yXM_adds : MethodName := ⟨RXM, "adds", "(JI)V"⟩
abbrev cXM_share : ByteArray := prog_7_method_34_code
def yXM_share : MethodName := ⟨RXM, "share", "(II)V"⟩
abbrev cXM_value : ByteArray := prog_7_method_35_code
def yXM_value : MethodName := ⟨RXM, "value", "(II)J"⟩
abbrev cXM_fits : ByteArray := prog_7_method_37_code
def yXM_fits : MethodName := ⟨RXM, "fits", "(I)I"⟩
abbrev cXM_isAbove : ByteArray := prog_7_method_36_code
def yXM_isAbove : MethodName := ⟨RXM, "isAbove", "(IIII)Z"⟩
abbrev cXM_holds : ByteArray := prog_7_method_38_code
def yXM_holds : MethodName := ⟨RXM, "holds", "(II)Z"⟩
abbrev cXM_ring : ByteArray := prog_7_method_39_code
def yXM_ring : MethodName := ⟨RXM, "ring", "(I)I"⟩
abbrev cXM_route : ByteArray := prog_7_method_40_code
def yXM_route : MethodName := ⟨RXM, "route", "(II)I"⟩
abbrev cXM_difference : ByteArray := prog_7_method_41_code
def yXM_difference : MethodName := ⟨RXM, "difference", "(III)I"⟩
abbrev cXM_write : ByteArray := prog_7_method_44_code
def yXM_write : MethodName := ⟨RXM, "write", "(I)I"⟩
abbrev cXM_tell : ByteArray := prog_7_method_43_code
def yXM_tell : MethodName := ⟨RXM, "tell", "(II)V"⟩
abbrev cXM_put : ByteArray := prog_7_method_42_code
def yXM_put : MethodName := ⟨RXM, "put", "(I)V"⟩
abbrev cXM_at : ByteArray := prog_7_method_45_code
def yXM_at : MethodName := ⟨RXM, "at", "(I)I"⟩
abbrev cXM_clear : ByteArray := prog_7_method_46_code
def yXM_clear : MethodName := ⟨RXM, "clear", "()V"⟩
theorem tw_0 : Cond.initialized RXL ∈ TBL := tm 0 rfl rfl
theorem tw_1 : Cond.initialized RXG ∈ TBL := tm 1 rfl rfl
theorem tw_2 : Cond.initialized RXT ∈ TBL := tm 2 rfl rfl
theorem tw_3 : Cond.initialized RXR ∈ TBL := tm 3 rfl rfl
theorem tw_4 : Cond.initialized RXP ∈ TBL := tm 4 rfl rfl
theorem tw_5 : Cond.initialized RXB ∈ TBL := tm 5 rfl rfl
theorem tw_6 : Cond.initialized RXM ∈ TBL := tm 6 rfl rfl
theorem tw_12 : Cond.initialized RXA ∈ TBL := tm 12 rfl rfl
theorem tw_13 : Cond.initialized RXI ∈ TBL := tm 13 rfl rfl
theorem tw_16 : Cond.classLink RXL 8 RXG ∈ TBL := tm 16 rfl rfl
theorem tw_17 : Cond.instantiable RXG 7 ∈ TBL := tm 17 rfl rfl
theorem tw_18 : Cond.methodLink RXL 64 yXG_init ∈ TBL := tm 18 rfl rfl
theorem tw_19 : Cond.instanceMethod yXG_init ∈ TBL := tm 19 rfl rfl
theorem tw_20 : Cond.code yXG_init cXG_init 1 (none) ∈ TBL := tm 20 rfl rfl
theorem tw_21 : Cond.methodLink RXG 1 yXO_init ∈ TBL := tm 21 rfl rfl
theorem tw_22 : Cond.instanceMethod yXO_init ∈ TBL := tm 22 rfl rfl
theorem tw_23 : Cond.code yXO_init cXO_init 1 (none) ∈ TBL := tm 23 rfl rfl
theorem tw_24 : Cond.classLink RXG 7 RXT ∈ TBL := tm 24 rfl rfl
theorem tw_25 : Cond.instantiable RXT 4 ∈ TBL := tm 25 rfl rfl
theorem tw_27 : Cond.instanceMethod yXT_init ∈ TBL := tm 27 rfl rfl
theorem tw_28 : Cond.code yXT_init cXT_init 1 (none) ∈ TBL := tm 28 rfl rfl
theorem tw_29 : Cond.methodLink RXT 3 yXO_init ∈ TBL := tm 29 rfl rfl
theorem tw_30 : Cond.fieldLink RXT 9 "GradeTexts$Tape" "signs" "[I" ∈ TBL := tm 30 rfl rfl
theorem tw_31 : Cond.fieldLink RXT 15 "GradeTexts$Tape" "length" "I" ∈ TBL := tm 31 rfl rfl
theorem tw_32 : Cond.fieldLink RXT 19 "GradeTexts$Tape" "place" "I" ∈ TBL := tm 32 rfl rfl
theorem tw_33 : Cond.fieldLink RXT 22 "GradeTexts$Tape" "wrong" "I" ∈ TBL := tm 33 rfl rfl
theorem tw_43 : Cond.arrayClass .int ∈ TBL := tm 43 rfl rfl
theorem tw_44 : Cond.classLink RXG 16 RXR ∈ TBL := tm 44 rfl rfl
theorem tw_45 : Cond.instantiable RXR 1 ∈ TBL := tm 45 rfl rfl
theorem tw_46 : Cond.methodLink RXG 18 yXR_init ∈ TBL := tm 46 rfl rfl
theorem tw_47 : Cond.instanceMethod yXR_init ∈ TBL := tm 47 rfl rfl
theorem tw_48 : Cond.code yXR_init cXR_init 2 (none) ∈ TBL := tm 48 rfl rfl
theorem tw_49 : Cond.methodLink RXR 3 yXO_init ∈ TBL := tm 49 rfl rfl
theorem tw_50 : Cond.fieldLink RXR 9 "GradeTexts$Reader" "tape" "LGradeTexts$Tape;" ∈ TBL := tm 50 rfl rfl
theorem tw_54 : Cond.classLink RXG 25 RXP ∈ TBL := tm 54 rfl rfl
theorem tw_55 : Cond.instantiable RXP 2 ∈ TBL := tm 55 rfl rfl
theorem tw_57 : Cond.instanceMethod yXP_init ∈ TBL := tm 57 rfl rfl
theorem tw_58 : Cond.code yXP_init cXP_init 1 (none) ∈ TBL := tm 58 rfl rfl
theorem tw_59 : Cond.methodLink RXP 3 yXO_init ∈ TBL := tm 59 rfl rfl
theorem tw_60 : Cond.fieldLink RXP 9 "GradeTexts$Page" "signs" "[I" ∈ TBL := tm 60 rfl rfl
theorem tw_61 : Cond.fieldLink RXP 15 "GradeTexts$Page" "length" "I" ∈ TBL := tm 61 rfl rfl
theorem tw_67 : Cond.classLink RXG 39 RXB ∈ TBL := tm 67 rfl rfl
theorem tw_68 : Cond.instantiable RXB 9 ∈ TBL := tm 68 rfl rfl
theorem tw_70 : Cond.instanceMethod yXB_init ∈ TBL := tm 70 rfl rfl
theorem tw_71 : Cond.code yXB_init cXB_init 1 (none) ∈ TBL := tm 71 rfl rfl
theorem tw_72 : Cond.methodLink RXB 3 yXO_init ∈ TBL := tm 72 rfl rfl
theorem tw_73 : Cond.fieldLink RXB 9 "GradeTexts$Book" "toldParents" "[I" ∈ TBL := tm 73 rfl rfl
theorem tw_74 : Cond.fieldLink RXB 15 "GradeTexts$Book" "parents" "[I" ∈ TBL := tm 74 rfl rfl
theorem tw_75 : Cond.fieldLink RXB 18 "GradeTexts$Book" "lows" "[I" ∈ TBL := tm 75 rfl rfl
theorem tw_76 : Cond.fieldLink RXB 21 "GradeTexts$Book" "highs" "[I" ∈ TBL := tm 76 rfl rfl
theorem tw_77 : Cond.fieldLink RXB 24 "GradeTexts$Book" "limits" "[I" ∈ TBL := tm 77 rfl rfl
theorem tw_78 : Cond.fieldLink RXB 27 "GradeTexts$Book" "routes" "[I" ∈ TBL := tm 78 rfl rfl
theorem tw_79 : Cond.fieldLink RXB 30 "GradeTexts$Book" "divisors" "[I" ∈ TBL := tm 79 rfl rfl
theorem tw_80 : Cond.fieldLink RXB 33 "GradeTexts$Book" "grades" "I" ∈ TBL := tm 80 rfl rfl
theorem tw_81 : Cond.fieldLink RXB 37 "GradeTexts$Book" "formulas" "I" ∈ TBL := tm 81 rfl rfl
theorem tw_101 : Cond.fieldLink RXG 10 "GradeTexts" "tape" "LGradeTexts$Tape;" ∈ TBL := tm 101 rfl rfl
theorem tw_102 : Cond.fieldLink RXG 21 "GradeTexts" "reader" "LGradeTexts$Reader;" ∈ TBL := tm 102 rfl rfl
theorem tw_103 : Cond.fieldLink RXG 28 "GradeTexts" "page" "LGradeTexts$Page;" ∈ TBL := tm 103 rfl rfl
theorem tw_104 : Cond.fieldLink RXG 32 "GradeTexts" "shares" "[I" ∈ TBL := tm 104 rfl rfl
theorem tw_105 : Cond.fieldLink RXG 36 "GradeTexts" "ends" "[I" ∈ TBL := tm 105 rfl rfl
theorem tw_106 : Cond.fieldLink RXG 42 "GradeTexts" "book" "LGradeTexts$Book;" ∈ TBL := tm 106 rfl rfl
theorem tw_107 : Cond.fieldLink RXG 46 "GradeTexts" "spare" "LGradeTexts$Book;" ∈ TBL := tm 107 rfl rfl
theorem tw_123 : Cond.methodLink RXL 76 yXG_read ∈ TBL := tm 123 rfl rfl
theorem tw_124 : Cond.instanceMethod yXG_read ∈ TBL := tm 124 rfl rfl
theorem tw_125 : Cond.selects RXG yXG_read yXG_read ∈ TBL := tm 125 rfl rfl
theorem tw_126 : Cond.code yXG_read cXG_read 3 (some .int) ∈ TBL := tm 126 rfl rfl
theorem tw_127 : Cond.methodLink RXG 69 yXB_forget ∈ TBL := tm 127 rfl rfl
theorem tw_128 : Cond.instanceMethod yXB_forget ∈ TBL := tm 128 rfl rfl
theorem tw_129 : Cond.selects RXB yXB_forget yXB_forget ∈ TBL := tm 129 rfl rfl
theorem tw_130 : Cond.code yXB_forget cXB_forget 1 (none) ∈ TBL := tm 130 rfl rfl
theorem tw_131 : Cond.methodLink RXB 40 yXA_fill ∈ TBL := tm 131 rfl rfl
theorem tw_132 : Cond.static yXA_fill ∈ TBL := tm 132 rfl rfl
theorem tw_133 : Cond.code yXA_fill cXA_fill 4 (none) ∈ TBL := tm 133 rfl rfl
theorem tw_134 : Cond.methodLink RXG 72 yXR_text ∈ TBL := tm 134 rfl rfl
theorem tw_135 : Cond.instanceMethod yXR_text ∈ TBL := tm 135 rfl rfl
theorem tw_136 : Cond.selects RXR yXR_text yXR_text ∈ TBL := tm 136 rfl rfl
theorem tw_137 : Cond.code yXR_text cXR_text 3 (some .boolean) ∈ TBL := tm 137 rfl rfl
theorem tw_138 : Cond.methodLink RXR 15 yXT_rewind ∈ TBL := tm 138 rfl rfl
theorem tw_139 : Cond.instanceMethod yXT_rewind ∈ TBL := tm 139 rfl rfl
theorem tw_140 : Cond.selects RXT yXT_rewind yXT_rewind ∈ TBL := tm 140 rfl rfl
theorem tw_141 : Cond.code yXT_rewind cXT_rewind 1 (none) ∈ TBL := tm 141 rfl rfl
theorem tw_142 : Cond.methodLink RXR 20 yXT_next ∈ TBL := tm 142 rfl rfl
theorem tw_143 : Cond.instanceMethod yXT_next ∈ TBL := tm 143 rfl rfl
theorem tw_144 : Cond.selects RXT yXT_next yXT_next ∈ TBL := tm 144 rfl rfl
theorem tw_145 : Cond.code yXT_next cXT_next 1 (some .int) ∈ TBL := tm 145 rfl rfl
theorem tw_146 : Cond.methodLink RXR 24 yXR_row ∈ TBL := tm 146 rfl rfl
theorem tw_148 : Cond.instanceMethod yXR_row ∈ TBL := tm 148 rfl rfl
theorem tw_149 : Cond.code yXR_row cXR_row 2 (some .boolean) ∈ TBL := tm 149 rfl rfl
set_option maxRecDepth 16384 in
theorem tw_150 : Cond.methodLink RXR 28 yXT_skipIf ∈ TBL := tm 150 rfl rfl
set_option maxRecDepth 16384 in
theorem tw_151 : Cond.instanceMethod yXT_skipIf ∈ TBL := tm 151 rfl rfl
set_option maxRecDepth 16384 in
theorem tw_152 : Cond.selects RXT yXT_skipIf yXT_skipIf ∈ TBL := tm 152 rfl rfl
set_option maxRecDepth 16384 in
theorem tw_153 : Cond.code yXT_skipIf cXT_skipIf 2 (some .boolean) ∈ TBL := tm 153 rfl rfl
set_option maxRecDepth 16384 in
theorem tw_154 : Cond.methodLink RXT 27 yXT_next ∈ TBL := tm 154 rfl rfl
set_option maxRecDepth 16384 in
theorem tw_155 : Cond.methodLink RXR 32 yXR_formula ∈ TBL := tm 155 rfl rfl
set_option maxRecDepth 16384 in
theorem tw_157 : Cond.instanceMethod yXR_formula ∈ TBL := tm 157 rfl rfl
set_option maxRecDepth 16384 in
theorem tw_158 : Cond.code yXR_formula cXR_formula 3 (some .boolean) ∈ TBL := tm 158 rfl rfl
set_option maxRecDepth 16384 in
theorem tw_159 : Cond.methodLink RXR 45 yXT_takeOneOf ∈ TBL := tm 159 rfl rfl
set_option maxRecDepth 16384 in
theorem tw_160 : Cond.instanceMethod yXT_takeOneOf ∈ TBL := tm 160 rfl rfl
set_option maxRecDepth 16384 in
theorem tw_161 : Cond.selects RXT yXT_takeOneOf yXT_takeOneOf ∈ TBL := tm 161 rfl rfl
set_option maxRecDepth 16384 in
theorem tw_162 : Cond.code yXT_takeOneOf cXT_takeOneOf 4 (some .int) ∈ TBL := tm 162 rfl rfl
set_option maxRecDepth 16384 in
theorem tw_163 : Cond.methodLink RXT 31 yXT_refuse ∈ TBL := tm 163 rfl rfl
set_option maxRecDepth 16384 in
theorem tw_164 : Cond.instanceMethod yXT_refuse ∈ TBL := tm 164 rfl rfl
set_option maxRecDepth 16384 in
theorem tw_165 : Cond.selects RXT yXT_refuse yXT_refuse ∈ TBL := tm 165 rfl rfl
set_option maxRecDepth 16384 in
theorem tw_166 : Cond.code yXT_refuse cXT_refuse 1 (some .boolean) ∈ TBL := tm 166 rfl rfl
set_option maxRecDepth 16384 in
theorem tw_167 : Cond.methodLink RXR 49 yXB_hasFormula ∈ TBL := tm 167 rfl rfl
set_option maxRecDepth 16384 in
theorem tw_168 : Cond.instanceMethod yXB_hasFormula ∈ TBL := tm 168 rfl rfl
set_option maxRecDepth 16384 in
theorem tw_169 : Cond.selects RXB yXB_hasFormula yXB_hasFormula ∈ TBL := tm 169 rfl rfl
set_option maxRecDepth 16384 in
theorem tw_170 : Cond.code yXB_hasFormula cXB_hasFormula 2 (some .boolean) ∈ TBL := tm 170 rfl rfl
set_option maxRecDepth 16384 in
theorem tw_172 : Cond.static yXG_hasBit ∈ TBL := tm 172 rfl rfl
set_option maxRecDepth 16384 in
theorem tw_173 : Cond.code yXG_hasBit cXG_hasBit 2 (some .boolean) ∈ TBL := tm 173 rfl rfl
set_option maxRecDepth 16384 in
theorem tw_174 : Cond.methodLink RXR 54 yXT_refuseLast ∈ TBL := tm 174 rfl rfl
set_option maxRecDepth 16384 in
theorem tw_175 : Cond.instanceMethod yXT_refuseLast ∈ TBL := tm 175 rfl rfl
set_option maxRecDepth 16384 in
theorem tw_176 : Cond.selects RXT yXT_refuseLast yXT_refuseLast ∈ TBL := tm 176 rfl rfl
set_option maxRecDepth 16384 in
theorem tw_177 : Cond.code yXT_refuseLast cXT_refuseLast 1 (some .boolean) ∈ TBL := tm 177 rfl rfl
set_option maxRecDepth 16384 in
theorem tw_178 : Cond.methodLink RXR 57 yXB_tellFormula ∈ TBL := tm 178 rfl rfl
set_option maxRecDepth 16384 in
theorem tw_179 : Cond.instanceMethod yXB_tellFormula ∈ TBL := tm 179 rfl rfl
set_option maxRecDepth 16384 in
theorem tw_180 : Cond.selects RXB yXB_tellFormula yXB_tellFormula ∈ TBL := tm 180 rfl rfl
set_option maxRecDepth 16384 in
theorem tw_181 : Cond.code yXB_tellFormula cXB_tellFormula 2 (none) ∈ TBL := tm 181 rfl rfl
set_option maxRecDepth 16384 in
theorem tw_182 : Cond.methodLink RXR 35 yXT_take ∈ TBL := tm 182 rfl rfl
set_option maxRecDepth 16384 in
theorem tw_183 : Cond.instanceMethod yXT_take ∈ TBL := tm 183 rfl rfl
set_option maxRecDepth 16384 in
theorem tw_184 : Cond.selects RXT yXT_take yXT_take ∈ TBL := tm 184 rfl rfl
set_option maxRecDepth 16384 in
theorem tw_185 : Cond.code yXT_take cXT_take 2 (some .boolean) ∈ TBL := tm 185 rfl rfl
set_option maxRecDepth 16384 in
theorem tw_186 : Cond.methodLink RXR 61 yXR_terms ∈ TBL := tm 186 rfl rfl
set_option maxRecDepth 16384 in
theorem tw_188 : Cond.instanceMethod yXR_terms ∈ TBL := tm 188 rfl rfl
set_option maxRecDepth 16384 in
theorem tw_189 : Cond.code yXR_terms cXR_terms 6 (some .boolean) ∈ TBL := tm 189 rfl rfl
set_option maxRecDepth 16384 in
theorem tw_190 : Cond.methodLink RXR 65 yXB_divisorOf ∈ TBL := tm 190 rfl rfl
set_option maxRecDepth 16384 in
theorem tw_191 : Cond.instanceMethod yXB_divisorOf ∈ TBL := tm 191 rfl rfl
set_option maxRecDepth 16384 in
theorem tw_192 : Cond.selects RXB yXB_divisorOf yXB_divisorOf ∈ TBL := tm 192 rfl rfl
set_option maxRecDepth 16384 in
theorem tw_193 : Cond.code yXB_divisorOf cXB_divisorOf 3 (some .int) ∈ TBL := tm 193 rfl rfl
set_option maxRecDepth 16384 in
theorem tw_194 : Cond.methodLink RXR 68 yXT_number ∈ TBL := tm 194 rfl rfl
set_option maxRecDepth 16384 in
theorem tw_195 : Cond.instanceMethod yXT_number ∈ TBL := tm 195 rfl rfl
set_option maxRecDepth 16384 in
theorem tw_196 : Cond.selects RXT yXT_number yXT_number ∈ TBL := tm 196 rfl rfl
set_option maxRecDepth 16384 in
theorem tw_197 : Cond.code yXT_number cXT_number 5 (some .int) ∈ TBL := tm 197 rfl rfl
set_option maxRecDepth 16384 in
theorem tw_199 : Cond.static yXG_isDigit ∈ TBL := tm 199 rfl rfl
set_option maxRecDepth 16384 in
theorem tw_200 : Cond.code yXG_isDigit cXG_isDigit 1 (some .boolean) ∈ TBL := tm 200 rfl rfl
set_option maxRecDepth 16384 in
theorem tw_201 : Cond.methodLink RXT 39 yXT_here ∈ TBL := tm 201 rfl rfl
set_option maxRecDepth 16384 in
theorem tw_202 : Cond.instanceMethod yXT_here ∈ TBL := tm 202 rfl rfl
set_option maxRecDepth 16384 in
theorem tw_203 : Cond.selects RXT yXT_here yXT_here ∈ TBL := tm 203 rfl rfl
set_option maxRecDepth 16384 in
theorem tw_204 : Cond.code yXT_here cXT_here 1 (some .int) ∈ TBL := tm 204 rfl rfl
set_option maxRecDepth 16384 in
theorem tw_205 : Cond.methodLink RXT 42 yXT_refuseLast ∈ TBL := tm 205 rfl rfl
set_option maxRecDepth 16384 in
theorem tw_206 : Cond.methodLink RXR 71 yXB_tellTerm ∈ TBL := tm 206 rfl rfl
set_option maxRecDepth 16384 in
theorem tw_207 : Cond.instanceMethod yXB_tellTerm ∈ TBL := tm 207 rfl rfl
set_option maxRecDepth 16384 in
theorem tw_208 : Cond.selects RXB yXB_tellTerm yXB_tellTerm ∈ TBL := tm 208 rfl rfl
set_option maxRecDepth 16384 in
theorem tw_209 : Cond.code yXB_tellTerm cXB_tellTerm 4 (none) ∈ TBL := tm 209 rfl rfl
set_option maxRecDepth 16384 in
theorem tw_210 : Cond.methodLink RXR 41 yXT_refuse ∈ TBL := tm 210 rfl rfl
set_option maxRecDepth 16384 in
theorem tw_211 : Cond.methodLink RXR 38 yXR_grade ∈ TBL := tm 211 rfl rfl
set_option maxRecDepth 16384 in
theorem tw_213 : Cond.instanceMethod yXR_grade ∈ TBL := tm 213 rfl rfl
set_option maxRecDepth 16384 in
theorem tw_214 : Cond.code yXR_grade cXR_grade 3 (some .boolean) ∈ TBL := tm 214 rfl rfl
set_option maxRecDepth 16384 in
theorem tw_215 : Cond.methodLink RXR 75 yXB_knows ∈ TBL := tm 215 rfl rfl
set_option maxRecDepth 16384 in
theorem tw_216 : Cond.instanceMethod yXB_knows ∈ TBL := tm 216 rfl rfl
set_option maxRecDepth 16384 in
theorem tw_217 : Cond.selects RXB yXB_knows yXB_knows ∈ TBL := tm 217 rfl rfl
set_option maxRecDepth 16384 in
theorem tw_218 : Cond.code yXB_knows cXB_knows 2 (some .boolean) ∈ TBL := tm 218 rfl rfl
set_option maxRecDepth 16384 in
theorem tw_219 : Cond.methodLink RXR 78 yXB_tellGrade ∈ TBL := tm 219 rfl rfl
set_option maxRecDepth 16384 in
theorem tw_220 : Cond.instanceMethod yXB_tellGrade ∈ TBL := tm 220 rfl rfl
set_option maxRecDepth 16384 in
theorem tw_221 : Cond.selects RXB yXB_tellGrade yXB_tellGrade ∈ TBL := tm 221 rfl rfl
set_option maxRecDepth 16384 in
theorem tw_222 : Cond.code yXB_tellGrade cXB_tellGrade 2 (none) ∈ TBL := tm 222 rfl rfl
set_option maxRecDepth 16384 in
theorem tw_223 : Cond.methodLink RXR 81 yXR_parent ∈ TBL := tm 223 rfl rfl
set_option maxRecDepth 16384 in
theorem tw_225 : Cond.instanceMethod yXR_parent ∈ TBL := tm 225 rfl rfl
set_option maxRecDepth 16384 in
theorem tw_226 : Cond.code yXR_parent cXR_parent 4 (some .boolean) ∈ TBL := tm 226 rfl rfl
set_option maxRecDepth 16384 in
theorem tw_227 : Cond.methodLink RXR 93 yXB_tellParent ∈ TBL := tm 227 rfl rfl
set_option maxRecDepth 16384 in
theorem tw_228 : Cond.instanceMethod yXB_tellParent ∈ TBL := tm 228 rfl rfl
set_option maxRecDepth 16384 in
theorem tw_229 : Cond.selects RXB yXB_tellParent yXB_tellParent ∈ TBL := tm 229 rfl rfl
set_option maxRecDepth 16384 in
theorem tw_230 : Cond.code yXB_tellParent cXB_tellParent 3 (none) ∈ TBL := tm 230 rfl rfl
set_option maxRecDepth 16384 in
theorem tw_231 : Cond.methodLink RXR 84 yXR_spans ∈ TBL := tm 231 rfl rfl
set_option maxRecDepth 16384 in
theorem tw_233 : Cond.instanceMethod yXR_spans ∈ TBL := tm 233 rfl rfl
set_option maxRecDepth 16384 in
theorem tw_234 : Cond.code yXR_spans cXR_spans 7 (some .boolean) ∈ TBL := tm 234 rfl rfl
set_option maxRecDepth 16384 in
theorem tw_236 : Cond.static yXG_isElement ∈ TBL := tm 236 rfl rfl
set_option maxRecDepth 16384 in
theorem tw_237 : Cond.code yXG_isElement cXG_isElement 1 (some .boolean) ∈ TBL := tm 237 rfl rfl
set_option maxRecDepth 16384 in
theorem tw_238 : Cond.methodLink RXR 100 yXB_tellsSpan ∈ TBL := tm 238 rfl rfl
set_option maxRecDepth 16384 in
theorem tw_239 : Cond.instanceMethod yXB_tellsSpan ∈ TBL := tm 239 rfl rfl
set_option maxRecDepth 16384 in
theorem tw_240 : Cond.selects RXB yXB_tellsSpan yXB_tellsSpan ∈ TBL := tm 240 rfl rfl
set_option maxRecDepth 16384 in
theorem tw_241 : Cond.code yXB_tellsSpan cXB_tellsSpan 3 (some .boolean) ∈ TBL := tm 241 rfl rfl
set_option maxRecDepth 16384 in
theorem tw_242 : Cond.constant RXR 104 100000 ∈ TBL := tm 242 rfl rfl
set_option maxRecDepth 16384 in
theorem tw_243 : Cond.methodLink RXR 105 yXB_tellSpan ∈ TBL := tm 243 rfl rfl
set_option maxRecDepth 16384 in
theorem tw_244 : Cond.instanceMethod yXB_tellSpan ∈ TBL := tm 244 rfl rfl
set_option maxRecDepth 16384 in
theorem tw_245 : Cond.selects RXB yXB_tellSpan yXB_tellSpan ∈ TBL := tm 245 rfl rfl
set_option maxRecDepth 16384 in
theorem tw_246 : Cond.code yXB_tellSpan cXB_tellSpan 5 (none) ∈ TBL := tm 246 rfl rfl
set_option maxRecDepth 16384 in
theorem tw_247 : Cond.methodLink RXR 87 yXR_routes ∈ TBL := tm 247 rfl rfl
set_option maxRecDepth 16384 in
theorem tw_249 : Cond.instanceMethod yXR_routes ∈ TBL := tm 249 rfl rfl
set_option maxRecDepth 16384 in
theorem tw_250 : Cond.code yXR_routes cXR_routes 6 (some .boolean) ∈ TBL := tm 250 rfl rfl
set_option maxRecDepth 16384 in
theorem tw_252 : Cond.methodLink RXR 112 yXB_tellRoute ∈ TBL := tm 252 rfl rfl
set_option maxRecDepth 16384 in
theorem tw_253 : Cond.instanceMethod yXB_tellRoute ∈ TBL := tm 253 rfl rfl
set_option maxRecDepth 16384 in
theorem tw_254 : Cond.selects RXB yXB_tellRoute yXB_tellRoute ∈ TBL := tm 254 rfl rfl
set_option maxRecDepth 16384 in
theorem tw_255 : Cond.code yXB_tellRoute cXB_tellRoute 3 (none) ∈ TBL := tm 255 rfl rfl
set_option maxRecDepth 16384 in
theorem tw_256 : Cond.methodLink RXR 90 yXR_limits ∈ TBL := tm 256 rfl rfl
set_option maxRecDepth 16384 in
theorem tw_258 : Cond.instanceMethod yXR_limits ∈ TBL := tm 258 rfl rfl
set_option maxRecDepth 16384 in
theorem tw_259 : Cond.code yXR_limits cXR_limits 6 (some .boolean) ∈ TBL := tm 259 rfl rfl
set_option maxRecDepth 16384 in
theorem tw_260 : Cond.methodLink RXR 115 yXB_tellsLimit ∈ TBL := tm 260 rfl rfl
set_option maxRecDepth 16384 in
theorem tw_261 : Cond.instanceMethod yXB_tellsLimit ∈ TBL := tm 261 rfl rfl
set_option maxRecDepth 16384 in
theorem tw_262 : Cond.selects RXB yXB_tellsLimit yXB_tellsLimit ∈ TBL := tm 262 rfl rfl
set_option maxRecDepth 16384 in
theorem tw_263 : Cond.code yXB_tellsLimit cXB_tellsLimit 3 (some .boolean) ∈ TBL := tm 263 rfl rfl
set_option maxRecDepth 16384 in
theorem tw_264 : Cond.constant RXR 118 999999 ∈ TBL := tm 264 rfl rfl
set_option maxRecDepth 16384 in
theorem tw_265 : Cond.methodLink RXR 119 yXB_tellLimit ∈ TBL := tm 265 rfl rfl
set_option maxRecDepth 16384 in
theorem tw_266 : Cond.instanceMethod yXB_tellLimit ∈ TBL := tm 266 rfl rfl
set_option maxRecDepth 16384 in
theorem tw_267 : Cond.selects RXB yXB_tellLimit yXB_tellLimit ∈ TBL := tm 267 rfl rfl
set_option maxRecDepth 16384 in
theorem tw_268 : Cond.code yXB_tellLimit cXB_tellLimit 4 (none) ∈ TBL := tm 268 rfl rfl
set_option maxRecDepth 16384 in
theorem tw_269 : Cond.methodLink RXG 76 yXT_empty ∈ TBL := tm 269 rfl rfl
set_option maxRecDepth 16384 in
theorem tw_270 : Cond.instanceMethod yXT_empty ∈ TBL := tm 270 rfl rfl
set_option maxRecDepth 16384 in
theorem tw_271 : Cond.selects RXT yXT_empty yXT_empty ∈ TBL := tm 271 rfl rfl
set_option maxRecDepth 16384 in
theorem tw_272 : Cond.code yXT_empty cXT_empty 1 (none) ∈ TBL := tm 272 rfl rfl
set_option maxRecDepth 16384 in
theorem tw_273 : Cond.methodLink RXG 79 yXT_wrongPlace ∈ TBL := tm 273 rfl rfl
set_option maxRecDepth 16384 in
theorem tw_274 : Cond.instanceMethod yXT_wrongPlace ∈ TBL := tm 274 rfl rfl
set_option maxRecDepth 16384 in
theorem tw_275 : Cond.selects RXT yXT_wrongPlace yXT_wrongPlace ∈ TBL := tm 275 rfl rfl
set_option maxRecDepth 16384 in
theorem tw_276 : Cond.code yXT_wrongPlace cXT_wrongPlace 1 (some .int) ∈ TBL := tm 276 rfl rfl
set_option maxRecDepth 16384 in
theorem tw_277 : Cond.methodLink RXG 83 yXB_settle ∈ TBL := tm 277 rfl rfl
set_option maxRecDepth 16384 in
theorem tw_278 : Cond.instanceMethod yXB_settle ∈ TBL := tm 278 rfl rfl
set_option maxRecDepth 16384 in
theorem tw_279 : Cond.selects RXB yXB_settle yXB_settle ∈ TBL := tm 279 rfl rfl
set_option maxRecDepth 16384 in
theorem tw_280 : Cond.code yXB_settle cXB_settle 3 (none) ∈ TBL := tm 280 rfl rfl
set_option maxRecDepth 16384 in
theorem tw_281 : Cond.methodLink RXB 56 yXB_knows ∈ TBL := tm 281 rfl rfl
set_option maxRecDepth 16384 in
theorem tw_282 : Cond.methodLink RXB 60 yXB_onRing ∈ TBL := tm 282 rfl rfl
set_option maxRecDepth 16384 in
theorem tw_283 : Cond.instanceMethod yXB_onRing ∈ TBL := tm 283 rfl rfl
set_option maxRecDepth 16384 in
theorem tw_284 : Cond.selects RXB yXB_onRing yXB_onRing ∈ TBL := tm 284 rfl rfl
set_option maxRecDepth 16384 in
theorem tw_285 : Cond.code yXB_onRing cXB_onRing 4 (some .boolean) ∈ TBL := tm 285 rfl rfl
set_option maxRecDepth 16384 in
theorem tw_286 : Cond.methodLink RXG 86 yXB_count ∈ TBL := tm 286 rfl rfl
set_option maxRecDepth 16384 in
theorem tw_287 : Cond.instanceMethod yXB_count ∈ TBL := tm 287 rfl rfl
set_option maxRecDepth 16384 in
theorem tw_288 : Cond.selects RXB yXB_count yXB_count ∈ TBL := tm 288 rfl rfl
set_option maxRecDepth 16384 in
theorem tw_289 : Cond.code yXB_count cXB_count 1 (some .int) ∈ TBL := tm 289 rfl rfl
set_option maxRecDepth 16384 in
theorem tw_290 : Cond.methodLink RXB 46 yXI_bitCount ∈ TBL := tm 290 rfl rfl
set_option maxRecDepth 16384 in
theorem tw_291 : Cond.static yXI_bitCount ∈ TBL := tm 291 rfl rfl
set_option maxRecDepth 16384 in
theorem tw_292 : Cond.code yXI_bitCount cXI_bitCount 1 (some .int) ∈ TBL := tm 292 rfl rfl
set_option maxRecDepth 16384 in
theorem tw_293 : Cond.constant RXI 265 1431655765 ∈ TBL := tm 293 rfl rfl
set_option maxRecDepth 16384 in
theorem tw_294 : Cond.constant RXI 266 858993459 ∈ TBL := tm 294 rfl rfl
set_option maxRecDepth 16384 in
theorem tw_295 : Cond.constant RXI 267 252645135 ∈ TBL := tm 295 rfl rfl
set_option maxRecDepth 16384 in
theorem tw_296 : Cond.methodLink RXL 125 yXG_clear ∈ TBL := tm 296 rfl rfl
set_option maxRecDepth 16384 in
theorem tw_297 : Cond.instanceMethod yXG_clear ∈ TBL := tm 297 rfl rfl
set_option maxRecDepth 16384 in
theorem tw_298 : Cond.selects RXG yXG_clear yXG_clear ∈ TBL := tm 298 rfl rfl
set_option maxRecDepth 16384 in
theorem tw_299 : Cond.code yXG_clear cXG_clear 1 (none) ∈ TBL := tm 299 rfl rfl
set_option maxRecDepth 16384 in
theorem tw_300 : Cond.methodLink RXG 154 yXA_fill ∈ TBL := tm 300 rfl rfl
set_option maxRecDepth 16384 in
theorem tw_301 : Cond.methodLink RXL 70 yXL_sign ∈ TBL := tm 301 rfl rfl
set_option maxRecDepth 16384 in
theorem tw_302 : Cond.static yXL_sign ∈ TBL := tm 302 rfl rfl
set_option maxRecDepth 16384 in
theorem tw_303 : Cond.codeWith yXL_sign cXL_sign 6 (some .int) [(0, 11, 14, 13), (0, 11, 18, 15)] ∈ TBL := tm 303 rfl rfl
set_option maxRecDepth 16384 in
theorem tw_304 : Cond.classLink RXL 13 "java/lang/IllegalArgumentException" ∈ TBL := tm 304 rfl rfl
set_option maxRecDepth 16384 in
theorem tw_305 : Cond.classLink RXL 15 "java/lang/UnsupportedOperationException" ∈ TBL := tm 305 rfl rfl
set_option maxRecDepth 16384 in
theorem tw_306 : Cond.methodLink RXL 7 yXG_sign ∈ TBL := tm 306 rfl rfl
set_option maxRecDepth 16384 in
theorem tw_307 : Cond.instanceMethod yXG_sign ∈ TBL := tm 307 rfl rfl
set_option maxRecDepth 16384 in
theorem tw_308 : Cond.selects RXG yXG_sign yXG_sign ∈ TBL := tm 308 rfl rfl
set_option maxRecDepth 16384 in
theorem tw_309 : Cond.code yXG_sign cXG_sign 4 (some .int) ∈ TBL := tm 309 rfl rfl
set_option maxRecDepth 16384 in
theorem tw_379 : Cond.methodLink RXG 56 yXT_hasRoom ∈ TBL := tm 379 rfl rfl
set_option maxRecDepth 16384 in
theorem tw_380 : Cond.instanceMethod yXT_hasRoom ∈ TBL := tm 380 rfl rfl
set_option maxRecDepth 16384 in
theorem tw_381 : Cond.selects RXT yXT_hasRoom yXT_hasRoom ∈ TBL := tm 381 rfl rfl
set_option maxRecDepth 16384 in
theorem tw_382 : Cond.code yXT_hasRoom cXT_hasRoom 2 (some .boolean) ∈ TBL := tm 382 rfl rfl
set_option maxRecDepth 16384 in
theorem tw_399 : Cond.methodLink RXG 65 yXT_append ∈ TBL := tm 399 rfl rfl
set_option maxRecDepth 16384 in
theorem tw_400 : Cond.instanceMethod yXT_append ∈ TBL := tm 400 rfl rfl
set_option maxRecDepth 16384 in
theorem tw_401 : Cond.selects RXT yXT_append yXT_append ∈ TBL := tm 401 rfl rfl
set_option maxRecDepth 16384 in
theorem tw_402 : Cond.code yXT_append cXT_append 5 (some .int) ∈ TBL := tm 402 rfl rfl
set_option maxRecDepth 16384 in
theorem tw_403 : Cond.constantLong RXT 25 255 ∈ TBL := tm 403 rfl rfl
set_option maxRecDepth 16384 in
theorem tw_404 : Cond.methodLink RXL 81 yXL_span ∈ TBL := tm 404 rfl rfl
set_option maxRecDepth 16384 in
theorem tw_405 : Cond.static yXL_span ∈ TBL := tm 405 rfl rfl
set_option maxRecDepth 16384 in
theorem tw_406 : Cond.codeWith yXL_span cXL_span 6 (some .int) [(0, 12, 15, 21)] ∈ TBL := tm 406 rfl rfl
set_option maxRecDepth 16384 in
theorem tw_407 : Cond.classLink RXL 21 "java/lang/IndexOutOfBoundsException" ∈ TBL := tm 407 rfl rfl
set_option maxRecDepth 16384 in
theorem tw_408 : Cond.methodLink RXL 17 yXG_span ∈ TBL := tm 408 rfl rfl
set_option maxRecDepth 16384 in
theorem tw_409 : Cond.instanceMethod yXG_span ∈ TBL := tm 409 rfl rfl
set_option maxRecDepth 16384 in
theorem tw_410 : Cond.selects RXG yXG_span yXG_span ∈ TBL := tm 410 rfl rfl
set_option maxRecDepth 16384 in
theorem tw_411 : Cond.code yXG_span cXG_span 4 (some .int) ∈ TBL := tm 411 rfl rfl
set_option maxRecDepth 16384 in
theorem tw_412 : Cond.methodLink RXG 89 yXG_needGrade ∈ TBL := tm 412 rfl rfl
set_option maxRecDepth 16384 in
theorem tw_414 : Cond.instanceMethod yXG_needGrade ∈ TBL := tm 414 rfl rfl
set_option maxRecDepth 16384 in
theorem tw_415 : Cond.code yXG_needGrade cXG_needGrade 2 (none) ∈ TBL := tm 415 rfl rfl
set_option maxRecDepth 16384 in
theorem tw_416 : Cond.methodLink RXG 160 yXB_knows ∈ TBL := tm 416 rfl rfl
set_option maxRecDepth 16384 in
theorem tw_433 : Cond.methodLink RXG 93 yXG_needBelow ∈ TBL := tm 433 rfl rfl
set_option maxRecDepth 16384 in
theorem tw_434 : Cond.static yXG_needBelow ∈ TBL := tm 434 rfl rfl
set_option maxRecDepth 16384 in
theorem tw_435 : Cond.code yXG_needBelow cXG_needBelow 2 (none) ∈ TBL := tm 435 rfl rfl
set_option maxRecDepth 16384 in
theorem tw_437 : Cond.methodLink RXG 97 yXB_endOf ∈ TBL := tm 437 rfl rfl
set_option maxRecDepth 16384 in
theorem tw_438 : Cond.instanceMethod yXB_endOf ∈ TBL := tm 438 rfl rfl
set_option maxRecDepth 16384 in
theorem tw_439 : Cond.selects RXB yXB_endOf yXB_endOf ∈ TBL := tm 439 rfl rfl
set_option maxRecDepth 16384 in
theorem tw_440 : Cond.code yXB_endOf cXB_endOf 6 (some .int) ∈ TBL := tm 440 rfl rfl
set_option maxRecDepth 16384 in
theorem tw_441 : Cond.methodLink RXB 63 yXB_tellsSpan ∈ TBL := tm 441 rfl rfl
set_option maxRecDepth 16384 in
theorem tw_442 : Cond.constant RXB 66 100000 ∈ TBL := tm 442 rfl rfl
set_option maxRecDepth 16384 in
theorem tw_443 : Cond.methodLink RXL 85 yXL_limit ∈ TBL := tm 443 rfl rfl
set_option maxRecDepth 16384 in
theorem tw_444 : Cond.static yXL_limit ∈ TBL := tm 444 rfl rfl
set_option maxRecDepth 16384 in
theorem tw_445 : Cond.codeWith yXL_limit cXL_limit 5 (some .int) [(0, 10, 13, 21)] ∈ TBL := tm 445 rfl rfl
set_option maxRecDepth 16384 in
theorem tw_446 : Cond.methodLink RXL 23 yXG_limit ∈ TBL := tm 446 rfl rfl
set_option maxRecDepth 16384 in
theorem tw_447 : Cond.instanceMethod yXG_limit ∈ TBL := tm 447 rfl rfl
set_option maxRecDepth 16384 in
theorem tw_448 : Cond.selects RXG yXG_limit yXG_limit ∈ TBL := tm 448 rfl rfl
set_option maxRecDepth 16384 in
theorem tw_449 : Cond.code yXG_limit cXG_limit 3 (some .int) ∈ TBL := tm 449 rfl rfl
set_option maxRecDepth 16384 in
theorem tw_450 : Cond.methodLink RXG 101 yXB_limitOf ∈ TBL := tm 450 rfl rfl
set_option maxRecDepth 16384 in
theorem tw_451 : Cond.instanceMethod yXB_limitOf ∈ TBL := tm 451 rfl rfl
set_option maxRecDepth 16384 in
theorem tw_452 : Cond.selects RXB yXB_limitOf yXB_limitOf ∈ TBL := tm 452 rfl rfl
set_option maxRecDepth 16384 in
theorem tw_453 : Cond.code yXB_limitOf cXB_limitOf 5 (some .int) ∈ TBL := tm 453 rfl rfl
set_option maxRecDepth 16384 in
theorem tw_454 : Cond.methodLink RXB 67 yXB_tellsLimit ∈ TBL := tm 454 rfl rfl
set_option maxRecDepth 16384 in
theorem tw_455 : Cond.methodLink RXL 89 yXL_equivalent ∈ TBL := tm 455 rfl rfl
set_option maxRecDepth 16384 in
theorem tw_456 : Cond.static yXL_equivalent ∈ TBL := tm 456 rfl rfl
set_option maxRecDepth 16384 in
theorem tw_457 : Cond.codeWith yXL_equivalent cXL_equivalent 7 (some .int) [(0, 13, 16, 21), (0, 13, 20, 31)] ∈ TBL := tm 457 rfl rfl
set_option maxRecDepth 16384 in
theorem tw_458 : Cond.classLink RXL 31 "java/lang/IllegalStateException" ∈ TBL := tm 458 rfl rfl
set_option maxRecDepth 16384 in
theorem tw_459 : Cond.methodLink RXL 27 yXG_equivalent ∈ TBL := tm 459 rfl rfl
set_option maxRecDepth 16384 in
theorem tw_460 : Cond.instanceMethod yXG_equivalent ∈ TBL := tm 460 rfl rfl
set_option maxRecDepth 16384 in
theorem tw_461 : Cond.selects RXG yXG_equivalent yXG_equivalent ∈ TBL := tm 461 rfl rfl
set_option maxRecDepth 16384 in
theorem tw_462 : Cond.code yXG_equivalent cXG_equivalent 5 (some .long) ∈ TBL := tm 462 rfl rfl
set_option maxRecDepth 16384 in
theorem tw_463 : Cond.methodLink RXG 105 yXG_needFormula ∈ TBL := tm 463 rfl rfl
set_option maxRecDepth 16384 in
theorem tw_465 : Cond.instanceMethod yXG_needFormula ∈ TBL := tm 465 rfl rfl
set_option maxRecDepth 16384 in
theorem tw_466 : Cond.code yXG_needFormula cXG_needFormula 2 (none) ∈ TBL := tm 466 rfl rfl
set_option maxRecDepth 16384 in
theorem tw_467 : Cond.methodLink RXG 172 yXB_hasFormula ∈ TBL := tm 467 rfl rfl
set_option maxRecDepth 16384 in
theorem tw_484 : Cond.methodLink RXG 108 yXB_copyEnds ∈ TBL := tm 484 rfl rfl
set_option maxRecDepth 16384 in
theorem tw_485 : Cond.instanceMethod yXB_copyEnds ∈ TBL := tm 485 rfl rfl
set_option maxRecDepth 16384 in
theorem tw_486 : Cond.selects RXB yXB_copyEnds yXB_copyEnds ∈ TBL := tm 486 rfl rfl
set_option maxRecDepth 16384 in
theorem tw_487 : Cond.code yXB_copyEnds cXB_copyEnds 5 (none) ∈ TBL := tm 487 rfl rfl
set_option maxRecDepth 16384 in
theorem tw_488 : Cond.methodLink RXB 70 yXB_endOf ∈ TBL := tm 488 rfl rfl
set_option maxRecDepth 16384 in
theorem tw_489 : Cond.methodLink RXG 112 yXB_scaledSum ∈ TBL := tm 489 rfl rfl
set_option maxRecDepth 16384 in
theorem tw_490 : Cond.instanceMethod yXB_scaledSum ∈ TBL := tm 490 rfl rfl
set_option maxRecDepth 16384 in
theorem tw_491 : Cond.selects RXB yXB_scaledSum yXB_scaledSum ∈ TBL := tm 491 rfl rfl
set_option maxRecDepth 16384 in
theorem tw_492 : Cond.code yXB_scaledSum cXB_scaledSum 7 (some .long) ∈ TBL := tm 492 rfl rfl
set_option maxRecDepth 16384 in
theorem tw_493 : Cond.methodLink RXB 74 yXB_divisorOf ∈ TBL := tm 493 rfl rfl
set_option maxRecDepth 16384 in
theorem tw_494 : Cond.constantLong RXB 78 232792560 ∈ TBL := tm 494 rfl rfl
set_option maxRecDepth 16384 in
theorem tw_495 : Cond.methodLink RXG 116 yXG_inLowestTerms ∈ TBL := tm 495 rfl rfl
set_option maxRecDepth 16384 in
theorem tw_496 : Cond.static yXG_inLowestTerms ∈ TBL := tm 496 rfl rfl
set_option maxRecDepth 16384 in
theorem tw_497 : Cond.code yXG_inLowestTerms cXG_inLowestTerms 5 (some .long) ∈ TBL := tm 497 rfl rfl
set_option maxRecDepth 16384 in
theorem tw_498 : Cond.constantLong RXG 180 232792560 ∈ TBL := tm 498 rfl rfl
set_option maxRecDepth 16384 in
theorem tw_499 : Cond.methodLink RXG 182 yXG_greatestDivisor ∈ TBL := tm 499 rfl rfl
set_option maxRecDepth 16384 in
theorem tw_500 : Cond.static yXG_greatestDivisor ∈ TBL := tm 500 rfl rfl
set_option maxRecDepth 16384 in
theorem tw_501 : Cond.code yXG_greatestDivisor cXG_greatestDivisor 11 (some .long) ∈ TBL := tm 501 rfl rfl
set_option maxRecDepth 16384 in
theorem tw_502 : Cond.methodLink RXL 93 yXL_share ∈ TBL := tm 502 rfl rfl
set_option maxRecDepth 16384 in
theorem tw_503 : Cond.static yXL_share ∈ TBL := tm 503 rfl rfl
set_option maxRecDepth 16384 in
theorem tw_504 : Cond.codeWith yXL_share cXL_share 4 (some .int) [(0, 6, 9, 21), (0, 6, 12, 13)] ∈ TBL := tm 504 rfl rfl
set_option maxRecDepth 16384 in
theorem tw_505 : Cond.methodLink RXL 33 yXG_share ∈ TBL := tm 505 rfl rfl
set_option maxRecDepth 16384 in
theorem tw_506 : Cond.instanceMethod yXG_share ∈ TBL := tm 506 rfl rfl
set_option maxRecDepth 16384 in
theorem tw_507 : Cond.selects RXG yXG_share yXG_share ∈ TBL := tm 507 rfl rfl
set_option maxRecDepth 16384 in
theorem tw_508 : Cond.code yXG_share cXG_share 3 (none) ∈ TBL := tm 508 rfl rfl
set_option maxRecDepth 16384 in
theorem tw_509 : Cond.constant RXG 120 100000 ∈ TBL := tm 509 rfl rfl
set_option maxRecDepth 16384 in
theorem tw_511 : Cond.methodLink RXL 97 yXL_value ∈ TBL := tm 511 rfl rfl
set_option maxRecDepth 16384 in
theorem tw_512 : Cond.static yXL_value ∈ TBL := tm 512 rfl rfl
set_option maxRecDepth 16384 in
theorem tw_513 : Cond.codeWith yXL_value cXL_value 5 (some .int) [(0, 9, 12, 21), (0, 9, 16, 31)] ∈ TBL := tm 513 rfl rfl
set_option maxRecDepth 16384 in
theorem tw_514 : Cond.methodLink RXL 37 yXG_value ∈ TBL := tm 514 rfl rfl
set_option maxRecDepth 16384 in
theorem tw_515 : Cond.instanceMethod yXG_value ∈ TBL := tm 515 rfl rfl
set_option maxRecDepth 16384 in
theorem tw_516 : Cond.selects RXG yXG_value yXG_value ∈ TBL := tm 516 rfl rfl
set_option maxRecDepth 16384 in
theorem tw_517 : Cond.code yXG_value cXG_value 3 (some .long) ∈ TBL := tm 517 rfl rfl
set_option maxRecDepth 16384 in
theorem tw_518 : Cond.methodLink RXL 100 yXL_fits ∈ TBL := tm 518 rfl rfl
set_option maxRecDepth 16384 in
theorem tw_519 : Cond.static yXL_fits ∈ TBL := tm 519 rfl rfl
set_option maxRecDepth 16384 in
theorem tw_520 : Cond.codeWith yXL_fits cXL_fits 4 (some .int) [(0, 9, 12, 21)] ∈ TBL := tm 520 rfl rfl
set_option maxRecDepth 16384 in
theorem tw_521 : Cond.methodLink RXL 41 yXG_fits ∈ TBL := tm 521 rfl rfl
set_option maxRecDepth 16384 in
theorem tw_522 : Cond.instanceMethod yXG_fits ∈ TBL := tm 522 rfl rfl
set_option maxRecDepth 16384 in
theorem tw_523 : Cond.selects RXG yXG_fits yXG_fits ∈ TBL := tm 523 rfl rfl
set_option maxRecDepth 16384 in
theorem tw_524 : Cond.code yXG_fits cXG_fits 4 (some .int) ∈ TBL := tm 524 rfl rfl
set_option maxRecDepth 16384 in
theorem tw_525 : Cond.methodLink RXG 123 yXB_firstKindAbove ∈ TBL := tm 525 rfl rfl
set_option maxRecDepth 16384 in
theorem tw_526 : Cond.instanceMethod yXB_firstKindAbove ∈ TBL := tm 526 rfl rfl
set_option maxRecDepth 16384 in
theorem tw_527 : Cond.selects RXB yXB_firstKindAbove yXB_firstKindAbove ∈ TBL := tm 527 rfl rfl
set_option maxRecDepth 16384 in
theorem tw_528 : Cond.code yXB_firstKindAbove cXB_firstKindAbove 5 (some .int) ∈ TBL := tm 528 rfl rfl
set_option maxRecDepth 16384 in
theorem tw_529 : Cond.methodLink RXB 80 yXB_limitOf ∈ TBL := tm 529 rfl rfl
set_option maxRecDepth 16384 in
theorem tw_530 : Cond.methodLink RXB 83 yXB_hasFormula ∈ TBL := tm 530 rfl rfl
set_option maxRecDepth 16384 in
theorem tw_531 : Cond.methodLink RXB 86 yXB_scaledSum ∈ TBL := tm 531 rfl rfl
set_option maxRecDepth 16384 in
theorem tw_532 : Cond.methodLink RXL 104 yXL_holds ∈ TBL := tm 532 rfl rfl
set_option maxRecDepth 16384 in
theorem tw_533 : Cond.static yXL_holds ∈ TBL := tm 533 rfl rfl
set_option maxRecDepth 16384 in
theorem tw_534 : Cond.codeWith yXL_holds cXL_holds 5 (some .int) [(0, 17, 20, 21)] ∈ TBL := tm 534 rfl rfl
set_option maxRecDepth 16384 in
theorem tw_535 : Cond.methodLink RXL 45 yXG_holds ∈ TBL := tm 535 rfl rfl
set_option maxRecDepth 16384 in
theorem tw_536 : Cond.instanceMethod yXG_holds ∈ TBL := tm 536 rfl rfl
set_option maxRecDepth 16384 in
theorem tw_537 : Cond.selects RXG yXG_holds yXG_holds ∈ TBL := tm 537 rfl rfl
set_option maxRecDepth 16384 in
theorem tw_538 : Cond.code yXG_holds cXG_holds 4 (some .boolean) ∈ TBL := tm 538 rfl rfl
set_option maxRecDepth 16384 in
theorem tw_539 : Cond.methodLink RXL 107 yXL_ring ∈ TBL := tm 539 rfl rfl
set_option maxRecDepth 16384 in
theorem tw_540 : Cond.static yXL_ring ∈ TBL := tm 540 rfl rfl
set_option maxRecDepth 16384 in
theorem tw_541 : Cond.codeWith yXL_ring cXL_ring 4 (some .int) [(0, 9, 12, 21)] ∈ TBL := tm 541 rfl rfl
set_option maxRecDepth 16384 in
theorem tw_542 : Cond.methodLink RXL 49 yXG_ring ∈ TBL := tm 542 rfl rfl
set_option maxRecDepth 16384 in
theorem tw_543 : Cond.instanceMethod yXG_ring ∈ TBL := tm 543 rfl rfl
set_option maxRecDepth 16384 in
theorem tw_544 : Cond.selects RXG yXG_ring yXG_ring ∈ TBL := tm 544 rfl rfl
set_option maxRecDepth 16384 in
theorem tw_545 : Cond.code yXG_ring cXG_ring 4 (some .int) ∈ TBL := tm 545 rfl rfl
set_option maxRecDepth 16384 in
theorem tw_546 : Cond.methodLink RXG 127 yXG_needPlace ∈ TBL := tm 546 rfl rfl
set_option maxRecDepth 16384 in
theorem tw_547 : Cond.static yXG_needPlace ∈ TBL := tm 547 rfl rfl
set_option maxRecDepth 16384 in
theorem tw_548 : Cond.code yXG_needPlace cXG_needPlace 1 (none) ∈ TBL := tm 548 rfl rfl
set_option maxRecDepth 16384 in
theorem tw_550 : Cond.methodLink RXG 130 yXB_onRing ∈ TBL := tm 550 rfl rfl
set_option maxRecDepth 16384 in
theorem tw_551 : Cond.methodLink RXL 110 yXL_route ∈ TBL := tm 551 rfl rfl
set_option maxRecDepth 16384 in
theorem tw_552 : Cond.static yXL_route ∈ TBL := tm 552 rfl rfl
set_option maxRecDepth 16384 in
theorem tw_553 : Cond.codeWith yXL_route cXL_route 5 (some .int) [(0, 10, 13, 21)] ∈ TBL := tm 553 rfl rfl
set_option maxRecDepth 16384 in
theorem tw_554 : Cond.methodLink RXL 52 yXG_route ∈ TBL := tm 554 rfl rfl
set_option maxRecDepth 16384 in
theorem tw_555 : Cond.instanceMethod yXG_route ∈ TBL := tm 555 rfl rfl
set_option maxRecDepth 16384 in
theorem tw_556 : Cond.selects RXG yXG_route yXG_route ∈ TBL := tm 556 rfl rfl
set_option maxRecDepth 16384 in
theorem tw_557 : Cond.code yXG_route cXG_route 6 (some .int) ∈ TBL := tm 557 rfl rfl
set_option maxRecDepth 16384 in
theorem tw_558 : Cond.methodLink RXG 133 yXB_routesOf ∈ TBL := tm 558 rfl rfl
set_option maxRecDepth 16384 in
theorem tw_559 : Cond.instanceMethod yXB_routesOf ∈ TBL := tm 559 rfl rfl
set_option maxRecDepth 16384 in
theorem tw_560 : Cond.selects RXB yXB_routesOf yXB_routesOf ∈ TBL := tm 560 rfl rfl
set_option maxRecDepth 16384 in
theorem tw_561 : Cond.code yXB_routesOf cXB_routesOf 4 (some .int) ∈ TBL := tm 561 rfl rfl
set_option maxRecDepth 16384 in
theorem tw_562 : Cond.methodLink RXG 137 yXG_hasBit ∈ TBL := tm 562 rfl rfl
set_option maxRecDepth 16384 in
theorem tw_563 : Cond.methodLink RXL 113 yXL_difference ∈ TBL := tm 563 rfl rfl
set_option maxRecDepth 16384 in
theorem tw_564 : Cond.static yXL_difference ∈ TBL := tm 564 rfl rfl
set_option maxRecDepth 16384 in
theorem tw_565 : Cond.codeWith yXL_difference cXL_difference 6 (some .int) [(0, 12, 15, 21)] ∈ TBL := tm 565 rfl rfl
set_option maxRecDepth 16384 in
theorem tw_566 : Cond.methodLink RXL 55 yXG_difference ∈ TBL := tm 566 rfl rfl
set_option maxRecDepth 16384 in
theorem tw_567 : Cond.instanceMethod yXG_difference ∈ TBL := tm 567 rfl rfl
set_option maxRecDepth 16384 in
theorem tw_568 : Cond.selects RXG yXG_difference yXG_difference ∈ TBL := tm 568 rfl rfl
set_option maxRecDepth 16384 in
theorem tw_569 : Cond.code yXG_difference cXG_difference 6 (some .int) ∈ TBL := tm 569 rfl rfl
set_option maxRecDepth 16384 in
theorem tw_570 : Cond.methodLink RXL 119 yXL_write ∈ TBL := tm 570 rfl rfl
set_option maxRecDepth 16384 in
theorem tw_571 : Cond.static yXL_write ∈ TBL := tm 571 rfl rfl
set_option maxRecDepth 16384 in
theorem tw_572 : Cond.codeWith yXL_write cXL_write 4 (some .int) [(0, 9, 12, 21)] ∈ TBL := tm 572 rfl rfl
set_option maxRecDepth 16384 in
theorem tw_573 : Cond.methodLink RXL 58 yXG_write ∈ TBL := tm 573 rfl rfl
set_option maxRecDepth 16384 in
theorem tw_574 : Cond.instanceMethod yXG_write ∈ TBL := tm 574 rfl rfl
set_option maxRecDepth 16384 in
theorem tw_575 : Cond.selects RXG yXG_write yXG_write ∈ TBL := tm 575 rfl rfl
set_option maxRecDepth 16384 in
theorem tw_576 : Cond.code yXG_write cXG_write 2 (some .int) ∈ TBL := tm 576 rfl rfl
set_option maxRecDepth 16384 in
theorem tw_577 : Cond.methodLink RXG 141 yXP_start ∈ TBL := tm 577 rfl rfl
set_option maxRecDepth 16384 in
theorem tw_578 : Cond.instanceMethod yXP_start ∈ TBL := tm 578 rfl rfl
set_option maxRecDepth 16384 in
theorem tw_579 : Cond.selects RXP yXP_start yXP_start ∈ TBL := tm 579 rfl rfl
set_option maxRecDepth 16384 in
theorem tw_580 : Cond.code yXP_start cXP_start 1 (none) ∈ TBL := tm 580 rfl rfl
set_option maxRecDepth 16384 in
theorem tw_581 : Cond.methodLink RXG 144 yXB_printRow ∈ TBL := tm 581 rfl rfl
set_option maxRecDepth 16384 in
theorem tw_582 : Cond.instanceMethod yXB_printRow ∈ TBL := tm 582 rfl rfl
set_option maxRecDepth 16384 in
theorem tw_583 : Cond.selects RXB yXB_printRow yXB_printRow ∈ TBL := tm 583 rfl rfl
set_option maxRecDepth 16384 in
theorem tw_584 : Cond.code yXB_printRow cXB_printRow 3 (none) ∈ TBL := tm 584 rfl rfl
set_option maxRecDepth 16384 in
theorem tw_585 : Cond.methodLink RXB 90 yXP_put ∈ TBL := tm 585 rfl rfl
set_option maxRecDepth 16384 in
theorem tw_586 : Cond.instanceMethod yXP_put ∈ TBL := tm 586 rfl rfl
set_option maxRecDepth 16384 in
theorem tw_587 : Cond.selects RXP yXP_put yXP_put ∈ TBL := tm 587 rfl rfl
set_option maxRecDepth 16384 in
theorem tw_588 : Cond.code yXP_put cXP_put 2 (none) ∈ TBL := tm 588 rfl rfl
set_option maxRecDepth 16384 in
theorem tw_589 : Cond.methodLink RXB 96 yXP_putNumber ∈ TBL := tm 589 rfl rfl
set_option maxRecDepth 16384 in
theorem tw_590 : Cond.instanceMethod yXP_putNumber ∈ TBL := tm 590 rfl rfl
set_option maxRecDepth 16384 in
theorem tw_591 : Cond.selects RXP yXP_putNumber yXP_putNumber ∈ TBL := tm 591 rfl rfl
set_option maxRecDepth 16384 in
theorem tw_592 : Cond.code yXP_putNumber cXP_putNumber 3 (none) ∈ TBL := tm 592 rfl rfl
set_option maxRecDepth 16384 in
theorem tw_593 : Cond.constant RXP 19 100000 ∈ TBL := tm 593 rfl rfl
set_option maxRecDepth 16384 in
theorem tw_594 : Cond.methodLink RXP 20 yXP_put ∈ TBL := tm 594 rfl rfl
set_option maxRecDepth 16384 in
theorem tw_595 : Cond.methodLink RXB 99 yXB_printSpans ∈ TBL := tm 595 rfl rfl
set_option maxRecDepth 16384 in
theorem tw_597 : Cond.instanceMethod yXB_printSpans ∈ TBL := tm 597 rfl rfl
set_option maxRecDepth 16384 in
theorem tw_598 : Cond.code yXB_printSpans cXB_printSpans 4 (none) ∈ TBL := tm 598 rfl rfl
set_option maxRecDepth 16384 in
theorem tw_599 : Cond.methodLink RXB 103 yXB_printRoutes ∈ TBL := tm 599 rfl rfl
set_option maxRecDepth 16384 in
theorem tw_601 : Cond.instanceMethod yXB_printRoutes ∈ TBL := tm 601 rfl rfl
set_option maxRecDepth 16384 in
theorem tw_602 : Cond.code yXB_printRoutes cXB_printRoutes 4 (none) ∈ TBL := tm 602 rfl rfl
set_option maxRecDepth 16384 in
theorem tw_603 : Cond.methodLink RXB 106 yXB_printLimits ∈ TBL := tm 603 rfl rfl
set_option maxRecDepth 16384 in
theorem tw_605 : Cond.instanceMethod yXB_printLimits ∈ TBL := tm 605 rfl rfl
set_option maxRecDepth 16384 in
theorem tw_606 : Cond.code yXB_printLimits cXB_printLimits 4 (none) ∈ TBL := tm 606 rfl rfl
set_option maxRecDepth 16384 in
theorem tw_607 : Cond.methodLink RXG 148 yXP_length ∈ TBL := tm 607 rfl rfl
set_option maxRecDepth 16384 in
theorem tw_608 : Cond.instanceMethod yXP_length ∈ TBL := tm 608 rfl rfl
set_option maxRecDepth 16384 in
theorem tw_609 : Cond.selects RXP yXP_length yXP_length ∈ TBL := tm 609 rfl rfl
set_option maxRecDepth 16384 in
theorem tw_610 : Cond.code yXP_length cXP_length 1 (some .int) ∈ TBL := tm 610 rfl rfl
set_option maxRecDepth 16384 in
theorem tw_611 : Cond.methodLink RXL 122 yXL_at ∈ TBL := tm 611 rfl rfl
set_option maxRecDepth 16384 in
theorem tw_612 : Cond.static yXL_at ∈ TBL := tm 612 rfl rfl
set_option maxRecDepth 16384 in
theorem tw_613 : Cond.codeWith yXL_at cXL_at 4 (some .int) [(0, 9, 12, 21)] ∈ TBL := tm 613 rfl rfl
set_option maxRecDepth 16384 in
theorem tw_614 : Cond.methodLink RXL 61 yXG_at ∈ TBL := tm 614 rfl rfl
set_option maxRecDepth 16384 in
theorem tw_615 : Cond.instanceMethod yXG_at ∈ TBL := tm 615 rfl rfl
set_option maxRecDepth 16384 in
theorem tw_616 : Cond.selects RXG yXG_at yXG_at ∈ TBL := tm 616 rfl rfl
set_option maxRecDepth 16384 in
theorem tw_617 : Cond.code yXG_at cXG_at 2 (some .int) ∈ TBL := tm 617 rfl rfl
set_option maxRecDepth 16384 in
theorem tw_618 : Cond.methodLink RXG 151 yXP_byteAt ∈ TBL := tm 618 rfl rfl
set_option maxRecDepth 16384 in
theorem tw_619 : Cond.instanceMethod yXP_byteAt ∈ TBL := tm 619 rfl rfl
set_option maxRecDepth 16384 in
theorem tw_620 : Cond.selects RXP yXP_byteAt yXP_byteAt ∈ TBL := tm 620 rfl rfl
set_option maxRecDepth 16384 in
theorem tw_621 : Cond.code yXP_byteAt cXP_byteAt 2 (some .int) ∈ TBL := tm 621 rfl rfl
set_option maxRecDepth 16384 in
theorem tw_622 : Cond.classLink RXL 65 RXM ∈ TBL := tm 622 rfl rfl
set_option maxRecDepth 16384 in
theorem tw_623 : Cond.instantiable RXM 19 ∈ TBL := tm 623 rfl rfl
set_option maxRecDepth 16384 in
theorem tw_624 : Cond.methodLink RXL 67 yXM_init ∈ TBL := tm 624 rfl rfl
set_option maxRecDepth 16384 in
theorem tw_625 : Cond.instanceMethod yXM_init ∈ TBL := tm 625 rfl rfl
set_option maxRecDepth 16384 in
theorem tw_626 : Cond.code yXM_init cXM_init 2 (none) ∈ TBL := tm 626 rfl rfl
set_option maxRecDepth 16384 in
theorem tw_627 : Cond.methodLink RXM 1 yXO_init ∈ TBL := tm 627 rfl rfl
set_option maxRecDepth 16384 in
theorem tw_628 : Cond.fieldLink RXM 47 "GradeTextsModel" "thrown" "I" ∈ TBL := tm 628 rfl rfl
set_option maxRecDepth 16384 in
theorem tw_629 : Cond.fieldLink RXM 55 "GradeTextsModel" "taped" "I" ∈ TBL := tm 629 rfl rfl
set_option maxRecDepth 16384 in
theorem tw_630 : Cond.fieldLink RXM 7 "GradeTextsModel" "tape" "[I" ∈ TBL := tm 630 rfl rfl
set_option maxRecDepth 16384 in
theorem tw_631 : Cond.fieldLink RXM 62 "GradeTextsModel" "at" "I" ∈ TBL := tm 631 rfl rfl
set_option maxRecDepth 16384 in
theorem tw_632 : Cond.fieldLink RXM 69 "GradeTextsModel" "wrong" "I" ∈ TBL := tm 632 rfl rfl
set_option maxRecDepth 16384 in
theorem tw_633 : Cond.fieldLink RXM 13 "GradeTextsModel" "isGrade" "[Z" ∈ TBL := tm 633 rfl rfl
set_option maxRecDepth 16384 in
theorem tw_634 : Cond.fieldLink RXM 17 "GradeTextsModel" "parent" "[I" ∈ TBL := tm 634 rfl rfl
set_option maxRecDepth 16384 in
theorem tw_635 : Cond.fieldLink RXM 20 "GradeTextsModel" "isSpan" "[Z" ∈ TBL := tm 635 rfl rfl
set_option maxRecDepth 16384 in
theorem tw_636 : Cond.fieldLink RXM 23 "GradeTextsModel" "low" "[I" ∈ TBL := tm 636 rfl rfl
set_option maxRecDepth 16384 in
theorem tw_637 : Cond.fieldLink RXM 26 "GradeTextsModel" "high" "[I" ∈ TBL := tm 637 rfl rfl
set_option maxRecDepth 16384 in
theorem tw_638 : Cond.fieldLink RXM 29 "GradeTextsModel" "routes" "[I" ∈ TBL := tm 638 rfl rfl
set_option maxRecDepth 16384 in
theorem tw_639 : Cond.fieldLink RXM 32 "GradeTextsModel" "limit" "[I" ∈ TBL := tm 639 rfl rfl
set_option maxRecDepth 16384 in
theorem tw_640 : Cond.fieldLink RXM 35 "GradeTextsModel" "isFormula" "[Z" ∈ TBL := tm 640 rfl rfl
set_option maxRecDepth 16384 in
theorem tw_641 : Cond.fieldLink RXM 38 "GradeTextsModel" "divisor" "[I" ∈ TBL := tm 641 rfl rfl
set_option maxRecDepth 16384 in
theorem tw_642 : Cond.fieldLink RXM 41 "GradeTextsModel" "hand" "[I" ∈ TBL := tm 642 rfl rfl
set_option maxRecDepth 16384 in
theorem tw_643 : Cond.fieldLink RXM 142 "GradeTextsModel" "up" "J" ∈ TBL := tm 643 rfl rfl
set_option maxRecDepth 16384 in
theorem tw_644 : Cond.fieldLink RXM 146 "GradeTextsModel" "down" "J" ∈ TBL := tm 644 rfl rfl
set_option maxRecDepth 16384 in
theorem tw_645 : Cond.fieldLink RXM 161 "GradeTextsModel" "printed" "I" ∈ TBL := tm 645 rfl rfl
set_option maxRecDepth 16384 in
theorem tw_646 : Cond.fieldLink RXM 44 "GradeTextsModel" "out" "[I" ∈ TBL := tm 646 rfl rfl
set_option maxRecDepth 16384 in
theorem tw_686 : Cond.arrayClass .boolean ∈ TBL := tm 686 rfl rfl
set_option maxRecDepth 16384 in
theorem tw_687 : Cond.methodLink RXL 116 yXM_thrown ∈ TBL := tm 687 rfl rfl
set_option maxRecDepth 16384 in
theorem tw_688 : Cond.instanceMethod yXM_thrown ∈ TBL := tm 688 rfl rfl
set_option maxRecDepth 16384 in
theorem tw_689 : Cond.selects RXM yXM_thrown yXM_thrown ∈ TBL := tm 689 rfl rfl
set_option maxRecDepth 16384 in
theorem tw_690 : Cond.code yXM_thrown cXM_thrown 1 (some .int) ∈ TBL := tm 690 rfl rfl
set_option maxRecDepth 16384 in
theorem tw_691 : Cond.methodLink RXL 75 yXM_sign ∈ TBL := tm 691 rfl rfl
set_option maxRecDepth 16384 in
theorem tw_692 : Cond.instanceMethod yXM_sign ∈ TBL := tm 692 rfl rfl
set_option maxRecDepth 16384 in
theorem tw_693 : Cond.selects RXM yXM_sign yXM_sign ∈ TBL := tm 693 rfl rfl
set_option maxRecDepth 16384 in
theorem tw_694 : Cond.code yXM_sign cXM_sign 5 (some .int) ∈ TBL := tm 694 rfl rfl
set_option maxRecDepth 16384 in
theorem tw_695 : Cond.methodLink RXM 51 yXM_in ∈ TBL := tm 695 rfl rfl
set_option maxRecDepth 16384 in
theorem tw_696 : Cond.static yXM_in ∈ TBL := tm 696 rfl rfl
set_option maxRecDepth 16384 in
theorem tw_697 : Cond.code yXM_in cXM_in 3 (some .boolean) ∈ TBL := tm 697 rfl rfl
set_option maxRecDepth 16384 in
theorem tw_698 : Cond.methodLink RXM 58 yXM_goes ∈ TBL := tm 698 rfl rfl
set_option maxRecDepth 16384 in
theorem tw_700 : Cond.instanceMethod yXM_goes ∈ TBL := tm 700 rfl rfl
set_option maxRecDepth 16384 in
theorem tw_701 : Cond.code yXM_goes cXM_goes 3 (some .boolean) ∈ TBL := tm 701 rfl rfl
set_option maxRecDepth 16384 in
theorem tw_702 : Cond.methodLink RXL 80 yXM_read ∈ TBL := tm 702 rfl rfl
set_option maxRecDepth 16384 in
theorem tw_703 : Cond.instanceMethod yXM_read ∈ TBL := tm 703 rfl rfl
set_option maxRecDepth 16384 in
theorem tw_704 : Cond.selects RXM yXM_read yXM_read ∈ TBL := tm 704 rfl rfl
set_option maxRecDepth 16384 in
theorem tw_705 : Cond.code yXM_read cXM_read 3 (some .int) ∈ TBL := tm 705 rfl rfl
set_option maxRecDepth 16384 in
theorem tw_706 : Cond.methodLink RXM 106 yXM_forget ∈ TBL := tm 706 rfl rfl
set_option maxRecDepth 16384 in
theorem tw_708 : Cond.instanceMethod yXM_forget ∈ TBL := tm 708 rfl rfl
set_option maxRecDepth 16384 in
theorem tw_709 : Cond.code yXM_forget cXM_forget 4 (none) ∈ TBL := tm 709 rfl rfl
set_option maxRecDepth 16384 in
theorem tw_710 : Cond.methodLink RXM 72 yXM_see ∈ TBL := tm 710 rfl rfl
set_option maxRecDepth 16384 in
theorem tw_712 : Cond.instanceMethod yXM_see ∈ TBL := tm 712 rfl rfl
set_option maxRecDepth 16384 in
theorem tw_713 : Cond.code yXM_see cXM_see 1 (some .int) ∈ TBL := tm 713 rfl rfl
set_option maxRecDepth 16384 in
theorem tw_714 : Cond.methodLink RXM 65 yXM_here ∈ TBL := tm 714 rfl rfl
set_option maxRecDepth 16384 in
theorem tw_716 : Cond.instanceMethod yXM_here ∈ TBL := tm 716 rfl rfl
set_option maxRecDepth 16384 in
theorem tw_717 : Cond.code yXM_here cXM_here 1 (some .int) ∈ TBL := tm 717 rfl rfl
set_option maxRecDepth 16384 in
theorem tw_718 : Cond.methodLink RXM 94 yXM_takes ∈ TBL := tm 718 rfl rfl
set_option maxRecDepth 16384 in
theorem tw_720 : Cond.instanceMethod yXM_takes ∈ TBL := tm 720 rfl rfl
set_option maxRecDepth 16384 in
theorem tw_721 : Cond.code yXM_takes cXM_takes 2 (some .boolean) ∈ TBL := tm 721 rfl rfl
set_option maxRecDepth 16384 in
theorem tw_722 : Cond.methodLink RXM 109 yXM_formula ∈ TBL := tm 722 rfl rfl
set_option maxRecDepth 16384 in
theorem tw_724 : Cond.instanceMethod yXM_formula ∈ TBL := tm 724 rfl rfl
set_option maxRecDepth 16384 in
theorem tw_725 : Cond.code yXM_formula cXM_formula 5 (none) ∈ TBL := tm 725 rfl rfl
set_option maxRecDepth 16384 in
theorem tw_726 : Cond.methodLink RXM 83 yXM_number ∈ TBL := tm 726 rfl rfl
set_option maxRecDepth 16384 in
theorem tw_728 : Cond.instanceMethod yXM_number ∈ TBL := tm 728 rfl rfl
set_option maxRecDepth 16384 in
theorem tw_729 : Cond.code yXM_number cXM_number 5 (some .int) ∈ TBL := tm 729 rfl rfl
set_option maxRecDepth 16384 in
theorem tw_730 : Cond.methodLink RXM 79 yXM_isDigit ∈ TBL := tm 730 rfl rfl
set_option maxRecDepth 16384 in
theorem tw_732 : Cond.instanceMethod yXM_isDigit ∈ TBL := tm 732 rfl rfl
set_option maxRecDepth 16384 in
theorem tw_733 : Cond.code yXM_isDigit cXM_isDigit 1 (some .boolean) ∈ TBL := tm 733 rfl rfl
set_option maxRecDepth 16384 in
theorem tw_734 : Cond.methodLink RXM 75 yXM_fail ∈ TBL := tm 734 rfl rfl
set_option maxRecDepth 16384 in
theorem tw_736 : Cond.instanceMethod yXM_fail ∈ TBL := tm 736 rfl rfl
set_option maxRecDepth 16384 in
theorem tw_737 : Cond.code yXM_fail cXM_fail 2 (none) ∈ TBL := tm 737 rfl rfl
set_option maxRecDepth 16384 in
theorem tw_738 : Cond.methodLink RXM 87 yXM_take ∈ TBL := tm 738 rfl rfl
set_option maxRecDepth 16384 in
theorem tw_740 : Cond.instanceMethod yXM_take ∈ TBL := tm 740 rfl rfl
set_option maxRecDepth 16384 in
theorem tw_741 : Cond.code yXM_take cXM_take 2 (none) ∈ TBL := tm 741 rfl rfl
set_option maxRecDepth 16384 in
theorem tw_742 : Cond.methodLink RXM 90 yXM_element ∈ TBL := tm 742 rfl rfl
set_option maxRecDepth 16384 in
theorem tw_744 : Cond.instanceMethod yXM_element ∈ TBL := tm 744 rfl rfl
set_option maxRecDepth 16384 in
theorem tw_745 : Cond.code yXM_element cXM_element 3 (some .int) ∈ TBL := tm 745 rfl rfl
set_option maxRecDepth 16384 in
theorem tw_746 : Cond.methodLink RXM 112 yXM_grade ∈ TBL := tm 746 rfl rfl
set_option maxRecDepth 16384 in
theorem tw_748 : Cond.instanceMethod yXM_grade ∈ TBL := tm 748 rfl rfl
set_option maxRecDepth 16384 in
theorem tw_749 : Cond.code yXM_grade cXM_grade 4 (none) ∈ TBL := tm 749 rfl rfl
set_option maxRecDepth 16384 in
theorem tw_750 : Cond.methodLink RXM 99 yXM_spans ∈ TBL := tm 750 rfl rfl
set_option maxRecDepth 16384 in
theorem tw_752 : Cond.instanceMethod yXM_spans ∈ TBL := tm 752 rfl rfl
set_option maxRecDepth 16384 in
theorem tw_753 : Cond.code yXM_spans cXM_spans 5 (none) ∈ TBL := tm 753 rfl rfl
set_option maxRecDepth 16384 in
theorem tw_754 : Cond.constant RXM 98 100000 ∈ TBL := tm 754 rfl rfl
set_option maxRecDepth 16384 in
theorem tw_755 : Cond.methodLink RXM 102 yXM_routeRow ∈ TBL := tm 755 rfl rfl
set_option maxRecDepth 16384 in
theorem tw_757 : Cond.instanceMethod yXM_routeRow ∈ TBL := tm 757 rfl rfl
set_option maxRecDepth 16384 in
theorem tw_758 : Cond.code yXM_routeRow cXM_routeRow 6 (some .int) ∈ TBL := tm 758 rfl rfl
set_option maxRecDepth 16384 in
theorem tw_759 : Cond.constant RXM 105 999999 ∈ TBL := tm 759 rfl rfl
set_option maxRecDepth 16384 in
theorem tw_760 : Cond.methodLink RXM 115 yXM_copy ∈ TBL := tm 760 rfl rfl
set_option maxRecDepth 16384 in
theorem tw_762 : Cond.instanceMethod yXM_copy ∈ TBL := tm 762 rfl rfl
set_option maxRecDepth 16384 in
theorem tw_763 : Cond.code yXM_copy cXM_copy 2 (none) ∈ TBL := tm 763 rfl rfl
set_option maxRecDepth 16384 in
theorem tw_764 : Cond.methodLink RXL 84 yXM_span ∈ TBL := tm 764 rfl rfl
set_option maxRecDepth 16384 in
theorem tw_765 : Cond.instanceMethod yXM_span ∈ TBL := tm 765 rfl rfl
set_option maxRecDepth 16384 in
theorem tw_766 : Cond.selects RXM yXM_span yXM_span ∈ TBL := tm 766 rfl rfl
set_option maxRecDepth 16384 in
theorem tw_767 : Cond.code yXM_span cXM_span 4 (some .int) ∈ TBL := tm 767 rfl rfl
set_option maxRecDepth 16384 in
theorem tw_768 : Cond.methodLink RXM 118 yXM_isTold ∈ TBL := tm 768 rfl rfl
set_option maxRecDepth 16384 in
theorem tw_770 : Cond.instanceMethod yXM_isTold ∈ TBL := tm 770 rfl rfl
set_option maxRecDepth 16384 in
theorem tw_771 : Cond.code yXM_isTold cXM_isTold 2 (some .boolean) ∈ TBL := tm 771 rfl rfl
set_option maxRecDepth 16384 in
theorem tw_772 : Cond.methodLink RXM 127 yXM_isElement ∈ TBL := tm 772 rfl rfl
set_option maxRecDepth 16384 in
theorem tw_773 : Cond.static yXM_isElement ∈ TBL := tm 773 rfl rfl
set_option maxRecDepth 16384 in
theorem tw_774 : Cond.code yXM_isElement cXM_isElement 1 (some .boolean) ∈ TBL := tm 774 rfl rfl
set_option maxRecDepth 16384 in
theorem tw_775 : Cond.methodLink RXM 130 yXM_lowOf ∈ TBL := tm 775 rfl rfl
set_option maxRecDepth 16384 in
theorem tw_777 : Cond.instanceMethod yXM_lowOf ∈ TBL := tm 777 rfl rfl
set_option maxRecDepth 16384 in
theorem tw_778 : Cond.code yXM_lowOf cXM_lowOf 4 (some .int) ∈ TBL := tm 778 rfl rfl
set_option maxRecDepth 16384 in
theorem tw_779 : Cond.methodLink RXM 124 yXM_from ∈ TBL := tm 779 rfl rfl
set_option maxRecDepth 16384 in
theorem tw_781 : Cond.instanceMethod yXM_from ∈ TBL := tm 781 rfl rfl
set_option maxRecDepth 16384 in
theorem tw_782 : Cond.code yXM_from cXM_from 2 (some .int) ∈ TBL := tm 782 rfl rfl
set_option maxRecDepth 16384 in
theorem tw_783 : Cond.methodLink RXM 121 yXM_isRing ∈ TBL := tm 783 rfl rfl
set_option maxRecDepth 16384 in
theorem tw_785 : Cond.instanceMethod yXM_isRing ∈ TBL := tm 785 rfl rfl
set_option maxRecDepth 16384 in
theorem tw_786 : Cond.code yXM_isRing cXM_isRing 4 (some .boolean) ∈ TBL := tm 786 rfl rfl
set_option maxRecDepth 16384 in
theorem tw_787 : Cond.methodLink RXM 133 yXM_highOf ∈ TBL := tm 787 rfl rfl
set_option maxRecDepth 16384 in
theorem tw_789 : Cond.instanceMethod yXM_highOf ∈ TBL := tm 789 rfl rfl
set_option maxRecDepth 16384 in
theorem tw_790 : Cond.code yXM_highOf cXM_highOf 4 (some .int) ∈ TBL := tm 790 rfl rfl
set_option maxRecDepth 16384 in
theorem tw_791 : Cond.methodLink RXL 88 yXM_limit ∈ TBL := tm 791 rfl rfl
set_option maxRecDepth 16384 in
theorem tw_792 : Cond.instanceMethod yXM_limit ∈ TBL := tm 792 rfl rfl
set_option maxRecDepth 16384 in
theorem tw_793 : Cond.selects RXM yXM_limit yXM_limit ∈ TBL := tm 793 rfl rfl
set_option maxRecDepth 16384 in
theorem tw_794 : Cond.code yXM_limit cXM_limit 3 (some .int) ∈ TBL := tm 794 rfl rfl
set_option maxRecDepth 16384 in
theorem tw_795 : Cond.methodLink RXM 136 yXM_isKind ∈ TBL := tm 795 rfl rfl
set_option maxRecDepth 16384 in
theorem tw_796 : Cond.static yXM_isKind ∈ TBL := tm 796 rfl rfl
set_option maxRecDepth 16384 in
theorem tw_797 : Cond.code yXM_isKind cXM_isKind 1 (some .boolean) ∈ TBL := tm 797 rfl rfl
set_option maxRecDepth 16384 in
theorem tw_798 : Cond.methodLink RXM 139 yXM_limitOf ∈ TBL := tm 798 rfl rfl
set_option maxRecDepth 16384 in
theorem tw_800 : Cond.instanceMethod yXM_limitOf ∈ TBL := tm 800 rfl rfl
set_option maxRecDepth 16384 in
theorem tw_801 : Cond.code yXM_limitOf cXM_limitOf 4 (some .int) ∈ TBL := tm 801 rfl rfl
set_option maxRecDepth 16384 in
theorem tw_802 : Cond.methodLink RXL 92 yXM_equivalent ∈ TBL := tm 802 rfl rfl
set_option maxRecDepth 16384 in
theorem tw_803 : Cond.instanceMethod yXM_equivalent ∈ TBL := tm 803 rfl rfl
set_option maxRecDepth 16384 in
theorem tw_804 : Cond.selects RXM yXM_equivalent yXM_equivalent ∈ TBL := tm 804 rfl rfl
set_option maxRecDepth 16384 in
theorem tw_805 : Cond.code yXM_equivalent cXM_equivalent 6 (some .long) ∈ TBL := tm 805 rfl rfl
set_option maxRecDepth 16384 in
theorem tw_806 : Cond.methodLink RXM 153 yXM_reckon ∈ TBL := tm 806 rfl rfl
set_option maxRecDepth 16384 in
theorem tw_808 : Cond.instanceMethod yXM_reckon ∈ TBL := tm 808 rfl rfl
set_option maxRecDepth 16384 in
theorem tw_809 : Cond.code yXM_reckon cXM_reckon 5 (none) ∈ TBL := tm 809 rfl rfl
set_option maxRecDepth 16384 in
theorem tw_810 : Cond.methodLink RXM 149 yXM_adds ∈ TBL := tm 810 rfl rfl
set_option maxRecDepth 16384 in
theorem tw_812 : Cond.instanceMethod yXM_adds ∈ TBL := tm 812 rfl rfl
set_option maxRecDepth 16384 in
theorem tw_813 : Cond.code yXM_adds cXM_adds 10 (none) ∈ TBL := tm 813 rfl rfl
set_option maxRecDepth 16384 in
theorem tw_814 : Cond.methodLink RXL 96 yXM_share ∈ TBL := tm 814 rfl rfl
set_option maxRecDepth 16384 in
theorem tw_815 : Cond.instanceMethod yXM_share ∈ TBL := tm 815 rfl rfl
set_option maxRecDepth 16384 in
theorem tw_816 : Cond.selects RXM yXM_share yXM_share ∈ TBL := tm 816 rfl rfl
set_option maxRecDepth 16384 in
theorem tw_817 : Cond.code yXM_share cXM_share 3 (none) ∈ TBL := tm 817 rfl rfl
set_option maxRecDepth 16384 in
theorem tw_818 : Cond.methodLink RXL 99 yXM_value ∈ TBL := tm 818 rfl rfl
set_option maxRecDepth 16384 in
theorem tw_819 : Cond.instanceMethod yXM_value ∈ TBL := tm 819 rfl rfl
set_option maxRecDepth 16384 in
theorem tw_820 : Cond.selects RXM yXM_value yXM_value ∈ TBL := tm 820 rfl rfl
set_option maxRecDepth 16384 in
theorem tw_821 : Cond.code yXM_value cXM_value 4 (some .long) ∈ TBL := tm 821 rfl rfl
set_option maxRecDepth 16384 in
theorem tw_822 : Cond.methodLink RXL 103 yXM_fits ∈ TBL := tm 822 rfl rfl
set_option maxRecDepth 16384 in
theorem tw_823 : Cond.instanceMethod yXM_fits ∈ TBL := tm 823 rfl rfl
set_option maxRecDepth 16384 in
theorem tw_824 : Cond.selects RXM yXM_fits yXM_fits ∈ TBL := tm 824 rfl rfl
set_option maxRecDepth 16384 in
theorem tw_825 : Cond.code yXM_fits cXM_fits 3 (some .int) ∈ TBL := tm 825 rfl rfl
set_option maxRecDepth 16384 in
theorem tw_826 : Cond.methodLink RXM 157 yXM_isAbove ∈ TBL := tm 826 rfl rfl
set_option maxRecDepth 16384 in
theorem tw_828 : Cond.instanceMethod yXM_isAbove ∈ TBL := tm 828 rfl rfl
set_option maxRecDepth 16384 in
theorem tw_829 : Cond.code yXM_isAbove cXM_isAbove 5 (some .boolean) ∈ TBL := tm 829 rfl rfl
set_option maxRecDepth 16384 in
theorem tw_830 : Cond.methodLink RXL 106 yXM_holds ∈ TBL := tm 830 rfl rfl
set_option maxRecDepth 16384 in
theorem tw_831 : Cond.instanceMethod yXM_holds ∈ TBL := tm 831 rfl rfl
set_option maxRecDepth 16384 in
theorem tw_832 : Cond.selects RXM yXM_holds yXM_holds ∈ TBL := tm 832 rfl rfl
set_option maxRecDepth 16384 in
theorem tw_833 : Cond.code yXM_holds cXM_holds 4 (some .boolean) ∈ TBL := tm 833 rfl rfl
set_option maxRecDepth 16384 in
theorem tw_834 : Cond.methodLink RXL 109 yXM_ring ∈ TBL := tm 834 rfl rfl
set_option maxRecDepth 16384 in
theorem tw_835 : Cond.instanceMethod yXM_ring ∈ TBL := tm 835 rfl rfl
set_option maxRecDepth 16384 in
theorem tw_836 : Cond.selects RXM yXM_ring yXM_ring ∈ TBL := tm 836 rfl rfl
set_option maxRecDepth 16384 in
theorem tw_837 : Cond.code yXM_ring cXM_ring 4 (some .int) ∈ TBL := tm 837 rfl rfl
set_option maxRecDepth 16384 in
theorem tw_838 : Cond.methodLink RXL 112 yXM_route ∈ TBL := tm 838 rfl rfl
set_option maxRecDepth 16384 in
theorem tw_839 : Cond.instanceMethod yXM_route ∈ TBL := tm 839 rfl rfl
set_option maxRecDepth 16384 in
theorem tw_840 : Cond.selects RXM yXM_route yXM_route ∈ TBL := tm 840 rfl rfl
set_option maxRecDepth 16384 in
theorem tw_841 : Cond.code yXM_route cXM_route 6 (some .int) ∈ TBL := tm 841 rfl rfl
set_option maxRecDepth 16384 in
theorem tw_842 : Cond.methodLink RXL 115 yXM_difference ∈ TBL := tm 842 rfl rfl
set_option maxRecDepth 16384 in
theorem tw_843 : Cond.instanceMethod yXM_difference ∈ TBL := tm 843 rfl rfl
set_option maxRecDepth 16384 in
theorem tw_844 : Cond.selects RXM yXM_difference yXM_difference ∈ TBL := tm 844 rfl rfl
set_option maxRecDepth 16384 in
theorem tw_845 : Cond.code yXM_difference cXM_difference 6 (some .int) ∈ TBL := tm 845 rfl rfl
set_option maxRecDepth 16384 in
theorem tw_846 : Cond.methodLink RXL 121 yXM_write ∈ TBL := tm 846 rfl rfl
set_option maxRecDepth 16384 in
theorem tw_847 : Cond.instanceMethod yXM_write ∈ TBL := tm 847 rfl rfl
set_option maxRecDepth 16384 in
theorem tw_848 : Cond.selects RXM yXM_write yXM_write ∈ TBL := tm 848 rfl rfl
set_option maxRecDepth 16384 in
theorem tw_849 : Cond.code yXM_write cXM_write 3 (some .int) ∈ TBL := tm 849 rfl rfl
set_option maxRecDepth 16384 in
theorem tw_850 : Cond.methodLink RXM 167 yXM_tell ∈ TBL := tm 850 rfl rfl
set_option maxRecDepth 16384 in
theorem tw_852 : Cond.instanceMethod yXM_tell ∈ TBL := tm 852 rfl rfl
set_option maxRecDepth 16384 in
theorem tw_853 : Cond.code yXM_tell cXM_tell 4 (none) ∈ TBL := tm 853 rfl rfl
set_option maxRecDepth 16384 in
theorem tw_854 : Cond.methodLink RXM 164 yXM_put ∈ TBL := tm 854 rfl rfl
set_option maxRecDepth 16384 in
theorem tw_856 : Cond.instanceMethod yXM_put ∈ TBL := tm 856 rfl rfl
set_option maxRecDepth 16384 in
theorem tw_857 : Cond.code yXM_put cXM_put 2 (none) ∈ TBL := tm 857 rfl rfl
set_option maxRecDepth 16384 in
theorem tw_858 : Cond.methodLink RXL 124 yXM_at ∈ TBL := tm 858 rfl rfl
set_option maxRecDepth 16384 in
theorem tw_859 : Cond.instanceMethod yXM_at ∈ TBL := tm 859 rfl rfl
set_option maxRecDepth 16384 in
theorem tw_860 : Cond.selects RXM yXM_at yXM_at ∈ TBL := tm 860 rfl rfl
set_option maxRecDepth 16384 in
theorem tw_861 : Cond.code yXM_at cXM_at 2 (some .int) ∈ TBL := tm 861 rfl rfl
set_option maxRecDepth 16384 in
theorem tw_862 : Cond.methodLink RXL 128 yXM_clear ∈ TBL := tm 862 rfl rfl
set_option maxRecDepth 16384 in
theorem tw_863 : Cond.instanceMethod yXM_clear ∈ TBL := tm 863 rfl rfl
set_option maxRecDepth 16384 in
theorem tw_864 : Cond.selects RXM yXM_clear yXM_clear ∈ TBL := tm 864 rfl rfl
set_option maxRecDepth 16384 in
theorem tw_865 : Cond.code yXM_clear cXM_clear 2 (none) ∈ TBL := tm 865 rfl rfl
set_option maxRecDepth 16384 in
theorem tw_866 : Cond.constantLong RXL 68 4294967295 ∈ TBL := tm 866 rfl rfl
set_option maxRecDepth 16384 in
theorem tw_867 : Cond.arrayClass .long ∈ TBL := tm 867 rfl rfl
theorem ts_0 : Cond.selects RXR yXR_row yXR_row ∈ TBL := tsel 0 (by decide +kernel) rfl
theorem ts_1 : Cond.selects RXR yXR_formula yXR_formula ∈ TBL := tsel 1 (by decide +kernel) rfl
theorem ts_2 : Cond.selects RXR yXR_terms yXR_terms ∈ TBL := tsel 2 (by decide +kernel) rfl
theorem ts_3 : Cond.selects RXR yXR_grade yXR_grade ∈ TBL := tsel 3 (by decide +kernel) rfl
theorem ts_4 : Cond.selects RXR yXR_parent yXR_parent ∈ TBL := tsel 4 (by decide +kernel) rfl
theorem ts_5 : Cond.selects RXR yXR_spans yXR_spans ∈ TBL := tsel 5 (by decide +kernel) rfl
theorem ts_6 : Cond.selects RXR yXR_routes yXR_routes ∈ TBL := tsel 6 (by decide +kernel) rfl
theorem ts_7 : Cond.selects RXR yXR_limits yXR_limits ∈ TBL := tsel 7 (by decide +kernel) rfl
theorem ts_9 : Cond.selects RXG yXG_needGrade yXG_needGrade ∈ TBL := tsel 9 (by decide +kernel) rfl
theorem ts_10 : Cond.selects RXG yXG_needFormula yXG_needFormula ∈ TBL := tsel 10 (by decide +kernel) rfl
theorem ts_11 : Cond.selects RXB yXB_printSpans yXB_printSpans ∈ TBL := tsel 11 (by decide +kernel) rfl
theorem ts_12 : Cond.selects RXB yXB_printRoutes yXB_printRoutes ∈ TBL := tsel 12 (by decide +kernel) rfl
theorem ts_13 : Cond.selects RXB yXB_printLimits yXB_printLimits ∈ TBL := tsel 13 (by decide +kernel) rfl
theorem ts_14 : Cond.selects RXM yXM_goes yXM_goes ∈ TBL := tsel 14 (by decide +kernel) rfl
theorem ts_15 : Cond.selects RXM yXM_forget yXM_forget ∈ TBL := tsel 15 (by decide +kernel) rfl
theorem ts_16 : Cond.selects RXM yXM_see yXM_see ∈ TBL := tsel 16 (by decide +kernel) rfl
theorem ts_17 : Cond.selects RXM yXM_here yXM_here ∈ TBL := tsel 17 (by decide +kernel) rfl
theorem ts_18 : Cond.selects RXM yXM_takes yXM_takes ∈ TBL := tsel 18 (by decide +kernel) rfl
theorem ts_19 : Cond.selects RXM yXM_formula yXM_formula ∈ TBL := tsel 19 (by decide +kernel) rfl
theorem ts_20 : Cond.selects RXM yXM_number yXM_number ∈ TBL := tsel 20 (by decide +kernel) rfl
theorem ts_21 : Cond.selects RXM yXM_isDigit yXM_isDigit ∈ TBL := tsel 21 (by decide +kernel) rfl
theorem ts_22 : Cond.selects RXM yXM_fail yXM_fail ∈ TBL := tsel 22 (by decide +kernel) rfl
theorem ts_23 : Cond.selects RXM yXM_take yXM_take ∈ TBL := tsel 23 (by decide +kernel) rfl
theorem ts_24 : Cond.selects RXM yXM_element yXM_element ∈ TBL := tsel 24 (by decide +kernel) rfl
theorem ts_25 : Cond.selects RXM yXM_grade yXM_grade ∈ TBL := tsel 25 (by decide +kernel) rfl
theorem ts_26 : Cond.selects RXM yXM_spans yXM_spans ∈ TBL := tsel 26 (by decide +kernel) rfl
theorem ts_27 : Cond.selects RXM yXM_routeRow yXM_routeRow ∈ TBL := tsel 27 (by decide +kernel) rfl
theorem ts_28 : Cond.selects RXM yXM_copy yXM_copy ∈ TBL := tsel 28 (by decide +kernel) rfl
theorem ts_29 : Cond.selects RXM yXM_isTold yXM_isTold ∈ TBL := tsel 29 (by decide +kernel) rfl
theorem ts_30 : Cond.selects RXM yXM_lowOf yXM_lowOf ∈ TBL := tsel 30 (by decide +kernel) rfl
theorem ts_31 : Cond.selects RXM yXM_from yXM_from ∈ TBL := tsel 31 (by decide +kernel) rfl
theorem ts_32 : Cond.selects RXM yXM_isRing yXM_isRing ∈ TBL := tsel 32 (by decide +kernel) rfl
theorem ts_33 : Cond.selects RXM yXM_highOf yXM_highOf ∈ TBL := tsel 33 (by decide +kernel) rfl
theorem ts_34 : Cond.selects RXM yXM_limitOf yXM_limitOf ∈ TBL := tsel 34 (by decide +kernel) rfl
theorem ts_35 : Cond.selects RXM yXM_reckon yXM_reckon ∈ TBL := tsel 35 (by decide +kernel) rfl
theorem ts_36 : Cond.selects RXM yXM_adds yXM_adds ∈ TBL := tsel 36 (by decide +kernel) rfl
theorem ts_37 : Cond.selects RXM yXM_isAbove yXM_isAbove ∈ TBL := tsel 37 (by decide +kernel) rfl
theorem ts_38 : Cond.selects RXM yXM_tell yXM_tell ∈ TBL := tsel 38 (by decide +kernel) rfl
theorem ts_39 : Cond.selects RXM yXM_put yXM_put ∈ TBL := tsel 39 (by decide +kernel) rfl
/-! the nest's words -/
def jN (U : State) : Prop := va_Nw (Cond.methodLinkNest RXG 9 yXT_init RXG) U ∧ va_Nw (Cond.methodLinkNest RXG 27 yXP_init RXG) U ∧ va_Nw (Cond.methodLinkNest RXG 41 yXB_init RXG) U ∧ va_Nw (Cond.methodLinkNest RXB 52 yXG_hasBit RXG) U ∧ va_Nw (Cond.methodLinkNest RXT 35 yXG_isDigit RXG) U ∧ va_Nw (Cond.methodLinkNest RXR 97 yXG_isElement RXG) U ∧ va_Nw (Cond.methodLinkNest RXR 109 yXG_isDigit RXG) U
theorem jN.same {u U : State} (h : u.vm = U.vm) (hN : jN u) : jN U := by
  obtain ⟨h0, h1, h2, h3, h4, h5, h6⟩ := hN
  exact ⟨va_Nw.same rfl h h0, va_Nw.same rfl h h1, va_Nw.same rfl h h2, va_Nw.same rfl h h3, va_Nw.same rfl h h4, va_Nw.same rfl h h5, va_Nw.same rfl h h6⟩
theorem jN.warm {s U : State} (h : s.WarmedH U.vm) (hN : jN s) : jN U := by
  obtain ⟨h0, h1, h2, h3, h4, h5, h6⟩ := hN
  exact ⟨va_Nw.warmM h h0, va_Nw.warmM h h1, va_Nw.warmM h h2, va_Nw.warmM h h3, va_Nw.warmM h h4, va_Nw.warmM h h5, va_Nw.warmM h h6⟩
theorem jN.n26 {U : State} (h : jN U) : va_Nw (Cond.methodLinkNest RXG 9 yXT_init RXG) U := h.1
theorem jN.n56 {U : State} (h : jN U) : va_Nw (Cond.methodLinkNest RXG 27 yXP_init RXG) U := h.2.1
theorem jN.n69 {U : State} (h : jN U) : va_Nw (Cond.methodLinkNest RXG 41 yXB_init RXG) U := h.2.2.1
theorem jN.n171 {U : State} (h : jN U) : va_Nw (Cond.methodLinkNest RXB 52 yXG_hasBit RXG) U := h.2.2.2.1
theorem jN.n198 {U : State} (h : jN U) : va_Nw (Cond.methodLinkNest RXT 35 yXG_isDigit RXG) U := h.2.2.2.2.1
theorem jN.n235 {U : State} (h : jN U) : va_Nw (Cond.methodLinkNest RXR 97 yXG_isElement RXG) U := h.2.2.2.2.2.1
theorem jN.n251 {U : State} (h : jN U) : va_Nw (Cond.methodLinkNest RXR 109 yXG_isDigit RXG) U := h.2.2.2.2.2.2
abbrev vwCl : List vw_C := [(RXB, TXB, 9), (RXP, TXP, 2), (RXR, TXR, 1), (RXT, TXT, 4), (RXG, TXG, 7), (RXM, TXM, 19)]

