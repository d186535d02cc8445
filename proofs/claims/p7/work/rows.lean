section

/-- a private method of a class that the tables say can be made, by its rows of tables_1 -/
def lw_okq (q : MethodName × Nat) : Prop := (q.1.cls ≠ "java/lang/invoke/MethodHandle" ∧ q.1.cls ≠ "java/lang/invoke/VarHandle") ∧ Cond.instantiable q.1.cls q.2 ∈ tables_1 ∧ Cond.privateMethod q.1 ∈ tables_1 ∧ Cond.instanceMethod q.1 ∈ tables_1
theorem lw_p0 : lw_okq (⟨"GradeTexts$Reader", "row", "(LGradeTexts$Book;)Z"⟩, 1) := ⟨⟨by decide +kernel, by decide +kernel⟩, List.mem_of_getElem? (i := 45) (by decide +kernel), List.mem_of_getElem? (i := 147) (by decide +kernel), List.mem_of_getElem? (i := 148) (by decide +kernel)⟩
theorem lw_p1 : lw_okq (⟨"GradeTexts$Reader", "formula", "(LGradeTexts$Book;)Z"⟩, 1) := ⟨⟨by decide +kernel, by decide +kernel⟩, List.mem_of_getElem? (i := 45) (by decide +kernel), List.mem_of_getElem? (i := 156) (by decide +kernel), List.mem_of_getElem? (i := 157) (by decide +kernel)⟩
theorem lw_p2 : lw_okq (⟨"GradeTexts$Reader", "terms", "(LGradeTexts$Book;I)Z"⟩, 1) := ⟨⟨by decide +kernel, by decide +kernel⟩, List.mem_of_getElem? (i := 45) (by decide +kernel), List.mem_of_getElem? (i := 187) (by decide +kernel), List.mem_of_getElem? (i := 188) (by decide +kernel)⟩
theorem lw_p3 : lw_okq (⟨"GradeTexts$Reader", "grade", "(LGradeTexts$Book;)Z"⟩, 1) := ⟨⟨by decide +kernel, by decide +kernel⟩, List.mem_of_getElem? (i := 45) (by decide +kernel), List.mem_of_getElem? (i := 212) (by decide +kernel), List.mem_of_getElem? (i := 213) (by decide +kernel)⟩
theorem lw_p4 : lw_okq (⟨"GradeTexts$Reader", "parent", "(LGradeTexts$Book;I)Z"⟩, 1) := ⟨⟨by decide +kernel, by decide +kernel⟩, List.mem_of_getElem? (i := 45) (by decide +kernel), List.mem_of_getElem? (i := 224) (by decide +kernel), List.mem_of_getElem? (i := 225) (by decide +kernel)⟩
theorem lw_p5 : lw_okq (⟨"GradeTexts$Reader", "spans", "(LGradeTexts$Book;I)Z"⟩, 1) := ⟨⟨by decide +kernel, by decide +kernel⟩, List.mem_of_getElem? (i := 45) (by decide +kernel), List.mem_of_getElem? (i := 232) (by decide +kernel), List.mem_of_getElem? (i := 233) (by decide +kernel)⟩
theorem lw_p6 : lw_okq (⟨"GradeTexts$Reader", "routes", "(LGradeTexts$Book;I)Z"⟩, 1) := ⟨⟨by decide +kernel, by decide +kernel⟩, List.mem_of_getElem? (i := 45) (by decide +kernel), List.mem_of_getElem? (i := 248) (by decide +kernel), List.mem_of_getElem? (i := 249) (by decide +kernel)⟩
theorem lw_p7 : lw_okq (⟨"GradeTexts$Reader", "limits", "(LGradeTexts$Book;I)Z"⟩, 1) := ⟨⟨by decide +kernel, by decide +kernel⟩, List.mem_of_getElem? (i := 45) (by decide +kernel), List.mem_of_getElem? (i := 257) (by decide +kernel), List.mem_of_getElem? (i := 258) (by decide +kernel)⟩
theorem lw_p8 : lw_okq (⟨"java/lang/Throwable", "fillInStackTrace", "(I)Ljava/lang/Throwable;"⟩, 6) := ⟨⟨by decide +kernel, by decide +kernel⟩, List.mem_of_getElem? (i := 350) (by decide +kernel), List.mem_of_getElem? (i := 348) (by decide +kernel), List.mem_of_getElem? (i := 349) (by decide +kernel)⟩
theorem lw_p9 : lw_okq (⟨"GradeTexts", "needGrade", "(I)V"⟩, 7) := ⟨⟨by decide +kernel, by decide +kernel⟩, List.mem_of_getElem? (i := 17) (by decide +kernel), List.mem_of_getElem? (i := 413) (by decide +kernel), List.mem_of_getElem? (i := 414) (by decide +kernel)⟩
theorem lw_p10 : lw_okq (⟨"GradeTexts", "needFormula", "(I)V"⟩, 7) := ⟨⟨by decide +kernel, by decide +kernel⟩, List.mem_of_getElem? (i := 17) (by decide +kernel), List.mem_of_getElem? (i := 464) (by decide +kernel), List.mem_of_getElem? (i := 465) (by decide +kernel)⟩
theorem lw_p11 : lw_okq (⟨"GradeTexts$Book", "printSpans", "(ILGradeTexts$Page;)V"⟩, 9) := ⟨⟨by decide +kernel, by decide +kernel⟩, List.mem_of_getElem? (i := 68) (by decide +kernel), List.mem_of_getElem? (i := 596) (by decide +kernel), List.mem_of_getElem? (i := 597) (by decide +kernel)⟩
theorem lw_p12 : lw_okq (⟨"GradeTexts$Book", "printRoutes", "(ILGradeTexts$Page;)V"⟩, 9) := ⟨⟨by decide +kernel, by decide +kernel⟩, List.mem_of_getElem? (i := 68) (by decide +kernel), List.mem_of_getElem? (i := 600) (by decide +kernel), List.mem_of_getElem? (i := 601) (by decide +kernel)⟩
theorem lw_p13 : lw_okq (⟨"GradeTexts$Book", "printLimits", "(ILGradeTexts$Page;)V"⟩, 9) := ⟨⟨by decide +kernel, by decide +kernel⟩, List.mem_of_getElem? (i := 68) (by decide +kernel), List.mem_of_getElem? (i := 604) (by decide +kernel), List.mem_of_getElem? (i := 605) (by decide +kernel)⟩
theorem lw_p14 : lw_okq (⟨"GradeTextsModel", "goes", "(ZZ)Z"⟩, 19) := ⟨⟨by decide +kernel, by decide +kernel⟩, List.mem_of_getElem? (i := 623) (by decide +kernel), List.mem_of_getElem? (i := 699) (by decide +kernel), List.mem_of_getElem? (i := 700) (by decide +kernel)⟩
theorem lw_p15 : lw_okq (⟨"GradeTextsModel", "forget", "(I)V"⟩, 19) := ⟨⟨by decide +kernel, by decide +kernel⟩, List.mem_of_getElem? (i := 623) (by decide +kernel), List.mem_of_getElem? (i := 707) (by decide +kernel), List.mem_of_getElem? (i := 708) (by decide +kernel)⟩
def lw_privs_1 : List (MethodName × Nat) := [(⟨"GradeTexts$Reader", "row", "(LGradeTexts$Book;)Z"⟩, 1), (⟨"GradeTexts$Reader", "formula", "(LGradeTexts$Book;)Z"⟩, 1), (⟨"GradeTexts$Reader", "terms", "(LGradeTexts$Book;I)Z"⟩, 1), (⟨"GradeTexts$Reader", "grade", "(LGradeTexts$Book;)Z"⟩, 1), (⟨"GradeTexts$Reader", "parent", "(LGradeTexts$Book;I)Z"⟩, 1), (⟨"GradeTexts$Reader", "spans", "(LGradeTexts$Book;I)Z"⟩, 1), (⟨"GradeTexts$Reader", "routes", "(LGradeTexts$Book;I)Z"⟩, 1), (⟨"GradeTexts$Reader", "limits", "(LGradeTexts$Book;I)Z"⟩, 1), (⟨"java/lang/Throwable", "fillInStackTrace", "(I)Ljava/lang/Throwable;"⟩, 6), (⟨"GradeTexts", "needGrade", "(I)V"⟩, 7), (⟨"GradeTexts", "needFormula", "(I)V"⟩, 7), (⟨"GradeTexts$Book", "printSpans", "(ILGradeTexts$Page;)V"⟩, 9), (⟨"GradeTexts$Book", "printRoutes", "(ILGradeTexts$Page;)V"⟩, 9), (⟨"GradeTexts$Book", "printLimits", "(ILGradeTexts$Page;)V"⟩, 9), (⟨"GradeTextsModel", "goes", "(ZZ)Z"⟩, 19), (⟨"GradeTextsModel", "forget", "(I)V"⟩, 19)]
theorem lw_r1 : ∀ q ∈ lw_privs_1, lw_okq q := List.forall_mem_cons.mpr ⟨lw_p0, List.forall_mem_cons.mpr ⟨lw_p1, List.forall_mem_cons.mpr ⟨lw_p2, List.forall_mem_cons.mpr ⟨lw_p3, List.forall_mem_cons.mpr ⟨lw_p4, List.forall_mem_cons.mpr ⟨lw_p5, List.forall_mem_cons.mpr ⟨lw_p6, List.forall_mem_cons.mpr ⟨lw_p7, List.forall_mem_cons.mpr ⟨lw_p8, List.forall_mem_cons.mpr ⟨lw_p9, List.forall_mem_cons.mpr ⟨lw_p10, List.forall_mem_cons.mpr ⟨lw_p11, List.forall_mem_cons.mpr ⟨lw_p12, List.forall_mem_cons.mpr ⟨lw_p13, List.forall_mem_cons.mpr ⟨lw_p14, List.forall_mem_cons.mpr ⟨lw_p15, fun _ h => absurd h List.not_mem_nil⟩⟩⟩⟩⟩⟩⟩⟩⟩⟩⟩⟩⟩⟩⟩⟩
theorem lw_p16 : lw_okq (⟨"GradeTextsModel", "see", "()I"⟩, 19) := ⟨⟨by decide +kernel, by decide +kernel⟩, List.mem_of_getElem? (i := 623) (by decide +kernel), List.mem_of_getElem? (i := 711) (by decide +kernel), List.mem_of_getElem? (i := 712) (by decide +kernel)⟩
theorem lw_p17 : lw_okq (⟨"GradeTextsModel", "here", "()I"⟩, 19) := ⟨⟨by decide +kernel, by decide +kernel⟩, List.mem_of_getElem? (i := 623) (by decide +kernel), List.mem_of_getElem? (i := 715) (by decide +kernel), List.mem_of_getElem? (i := 716) (by decide +kernel)⟩
theorem lw_p18 : lw_okq (⟨"GradeTextsModel", "takes", "(I)Z"⟩, 19) := ⟨⟨by decide +kernel, by decide +kernel⟩, List.mem_of_getElem? (i := 623) (by decide +kernel), List.mem_of_getElem? (i := 719) (by decide +kernel), List.mem_of_getElem? (i := 720) (by decide +kernel)⟩
theorem lw_p19 : lw_okq (⟨"GradeTextsModel", "formula", "()V"⟩, 19) := ⟨⟨by decide +kernel, by decide +kernel⟩, List.mem_of_getElem? (i := 623) (by decide +kernel), List.mem_of_getElem? (i := 723) (by decide +kernel), List.mem_of_getElem? (i := 724) (by decide +kernel)⟩
theorem lw_p20 : lw_okq (⟨"GradeTextsModel", "number", "(II)I"⟩, 19) := ⟨⟨by decide +kernel, by decide +kernel⟩, List.mem_of_getElem? (i := 623) (by decide +kernel), List.mem_of_getElem? (i := 727) (by decide +kernel), List.mem_of_getElem? (i := 728) (by decide +kernel)⟩
theorem lw_p21 : lw_okq (⟨"GradeTextsModel", "isDigit", "()Z"⟩, 19) := ⟨⟨by decide +kernel, by decide +kernel⟩, List.mem_of_getElem? (i := 623) (by decide +kernel), List.mem_of_getElem? (i := 731) (by decide +kernel), List.mem_of_getElem? (i := 732) (by decide +kernel)⟩
theorem lw_p22 : lw_okq (⟨"GradeTextsModel", "fail", "(I)V"⟩, 19) := ⟨⟨by decide +kernel, by decide +kernel⟩, List.mem_of_getElem? (i := 623) (by decide +kernel), List.mem_of_getElem? (i := 735) (by decide +kernel), List.mem_of_getElem? (i := 736) (by decide +kernel)⟩
theorem lw_p23 : lw_okq (⟨"GradeTextsModel", "take", "(I)V"⟩, 19) := ⟨⟨by decide +kernel, by decide +kernel⟩, List.mem_of_getElem? (i := 623) (by decide +kernel), List.mem_of_getElem? (i := 739) (by decide +kernel), List.mem_of_getElem? (i := 740) (by decide +kernel)⟩
theorem lw_p24 : lw_okq (⟨"GradeTextsModel", "element", "(I)I"⟩, 19) := ⟨⟨by decide +kernel, by decide +kernel⟩, List.mem_of_getElem? (i := 623) (by decide +kernel), List.mem_of_getElem? (i := 743) (by decide +kernel), List.mem_of_getElem? (i := 744) (by decide +kernel)⟩
theorem lw_p25 : lw_okq (⟨"GradeTextsModel", "grade", "()V"⟩, 19) := ⟨⟨by decide +kernel, by decide +kernel⟩, List.mem_of_getElem? (i := 623) (by decide +kernel), List.mem_of_getElem? (i := 747) (by decide +kernel), List.mem_of_getElem? (i := 748) (by decide +kernel)⟩
theorem lw_p26 : lw_okq (⟨"GradeTextsModel", "spans", "(I)V"⟩, 19) := ⟨⟨by decide +kernel, by decide +kernel⟩, List.mem_of_getElem? (i := 623) (by decide +kernel), List.mem_of_getElem? (i := 751) (by decide +kernel), List.mem_of_getElem? (i := 752) (by decide +kernel)⟩
theorem lw_p27 : lw_okq (⟨"GradeTextsModel", "routeRow", "()I"⟩, 19) := ⟨⟨by decide +kernel, by decide +kernel⟩, List.mem_of_getElem? (i := 623) (by decide +kernel), List.mem_of_getElem? (i := 756) (by decide +kernel), List.mem_of_getElem? (i := 757) (by decide +kernel)⟩
theorem lw_p28 : lw_okq (⟨"GradeTextsModel", "copy", "()V"⟩, 19) := ⟨⟨by decide +kernel, by decide +kernel⟩, List.mem_of_getElem? (i := 623) (by decide +kernel), List.mem_of_getElem? (i := 761) (by decide +kernel), List.mem_of_getElem? (i := 762) (by decide +kernel)⟩
theorem lw_p29 : lw_okq (⟨"GradeTextsModel", "isTold", "(I)Z"⟩, 19) := ⟨⟨by decide +kernel, by decide +kernel⟩, List.mem_of_getElem? (i := 623) (by decide +kernel), List.mem_of_getElem? (i := 769) (by decide +kernel), List.mem_of_getElem? (i := 770) (by decide +kernel)⟩
theorem lw_p30 : lw_okq (⟨"GradeTextsModel", "lowOf", "(II)I"⟩, 19) := ⟨⟨by decide +kernel, by decide +kernel⟩, List.mem_of_getElem? (i := 623) (by decide +kernel), List.mem_of_getElem? (i := 776) (by decide +kernel), List.mem_of_getElem? (i := 777) (by decide +kernel)⟩
theorem lw_p31 : lw_okq (⟨"GradeTextsModel", "from", "(I)I"⟩, 19) := ⟨⟨by decide +kernel, by decide +kernel⟩, List.mem_of_getElem? (i := 623) (by decide +kernel), List.mem_of_getElem? (i := 780) (by decide +kernel), List.mem_of_getElem? (i := 781) (by decide +kernel)⟩
def lw_privs_2 : List (MethodName × Nat) := [(⟨"GradeTextsModel", "see", "()I"⟩, 19), (⟨"GradeTextsModel", "here", "()I"⟩, 19), (⟨"GradeTextsModel", "takes", "(I)Z"⟩, 19), (⟨"GradeTextsModel", "formula", "()V"⟩, 19), (⟨"GradeTextsModel", "number", "(II)I"⟩, 19), (⟨"GradeTextsModel", "isDigit", "()Z"⟩, 19), (⟨"GradeTextsModel", "fail", "(I)V"⟩, 19), (⟨"GradeTextsModel", "take", "(I)V"⟩, 19), (⟨"GradeTextsModel", "element", "(I)I"⟩, 19), (⟨"GradeTextsModel", "grade", "()V"⟩, 19), (⟨"GradeTextsModel", "spans", "(I)V"⟩, 19), (⟨"GradeTextsModel", "routeRow", "()I"⟩, 19), (⟨"GradeTextsModel", "copy", "()V"⟩, 19), (⟨"GradeTextsModel", "isTold", "(I)Z"⟩, 19), (⟨"GradeTextsModel", "lowOf", "(II)I"⟩, 19), (⟨"GradeTextsModel", "from", "(I)I"⟩, 19)]
theorem lw_r2 : ∀ q ∈ lw_privs_2, lw_okq q := List.forall_mem_cons.mpr ⟨lw_p16, List.forall_mem_cons.mpr ⟨lw_p17, List.forall_mem_cons.mpr ⟨lw_p18, List.forall_mem_cons.mpr ⟨lw_p19, List.forall_mem_cons.mpr ⟨lw_p20, List.forall_mem_cons.mpr ⟨lw_p21, List.forall_mem_cons.mpr ⟨lw_p22, List.forall_mem_cons.mpr ⟨lw_p23, List.forall_mem_cons.mpr ⟨lw_p24, List.forall_mem_cons.mpr ⟨lw_p25, List.forall_mem_cons.mpr ⟨lw_p26, List.forall_mem_cons.mpr ⟨lw_p27, List.forall_mem_cons.mpr ⟨lw_p28, List.forall_mem_cons.mpr ⟨lw_p29, List.forall_mem_cons.mpr ⟨lw_p30, List.forall_mem_cons.mpr ⟨lw_p31, fun _ h => absurd h List.not_mem_nil⟩⟩⟩⟩⟩⟩⟩⟩⟩⟩⟩⟩⟩⟩⟩⟩
theorem lw_p32 : lw_okq (⟨"GradeTextsModel", "isRing", "(I)Z"⟩, 19) := ⟨⟨by decide +kernel, by decide +kernel⟩, List.mem_of_getElem? (i := 623) (by decide +kernel), List.mem_of_getElem? (i := 784) (by decide +kernel), List.mem_of_getElem? (i := 785) (by decide +kernel)⟩
theorem lw_p33 : lw_okq (⟨"GradeTextsModel", "highOf", "(II)I"⟩, 19) := ⟨⟨by decide +kernel, by decide +kernel⟩, List.mem_of_getElem? (i := 623) (by decide +kernel), List.mem_of_getElem? (i := 788) (by decide +kernel), List.mem_of_getElem? (i := 789) (by decide +kernel)⟩
theorem lw_p34 : lw_okq (⟨"GradeTextsModel", "limitOf", "(II)I"⟩, 19) := ⟨⟨by decide +kernel, by decide +kernel⟩, List.mem_of_getElem? (i := 623) (by decide +kernel), List.mem_of_getElem? (i := 799) (by decide +kernel), List.mem_of_getElem? (i := 800) (by decide +kernel)⟩
theorem lw_p35 : lw_okq (⟨"GradeTextsModel", "reckon", "(III)V"⟩, 19) := ⟨⟨by decide +kernel, by decide +kernel⟩, List.mem_of_getElem? (i := 623) (by decide +kernel), List.mem_of_getElem? (i := 807) (by decide +kernel), List.mem_of_getElem? (i := 808) (by decide +kernel)⟩
theorem lw_p36 : lw_okq (⟨"GradeTextsModel", "adds", "(JI)V"⟩, 19) := ⟨⟨by decide +kernel, by decide +kernel⟩, List.mem_of_getElem? (i := 623) (by decide +kernel), List.mem_of_getElem? (i := 811) (by decide +kernel), List.mem_of_getElem? (i := 812) (by decide +kernel)⟩
theorem lw_p37 : lw_okq (⟨"GradeTextsModel", "isAbove", "(IIII)Z"⟩, 19) := ⟨⟨by decide +kernel, by decide +kernel⟩, List.mem_of_getElem? (i := 623) (by decide +kernel), List.mem_of_getElem? (i := 827) (by decide +kernel), List.mem_of_getElem? (i := 828) (by decide +kernel)⟩
theorem lw_p38 : lw_okq (⟨"GradeTextsModel", "tell", "(II)V"⟩, 19) := ⟨⟨by decide +kernel, by decide +kernel⟩, List.mem_of_getElem? (i := 623) (by decide +kernel), List.mem_of_getElem? (i := 851) (by decide +kernel), List.mem_of_getElem? (i := 852) (by decide +kernel)⟩
theorem lw_p39 : lw_okq (⟨"GradeTextsModel", "put", "(I)V"⟩, 19) := ⟨⟨by decide +kernel, by decide +kernel⟩, List.mem_of_getElem? (i := 623) (by decide +kernel), List.mem_of_getElem? (i := 855) (by decide +kernel), List.mem_of_getElem? (i := 856) (by decide +kernel)⟩
def lw_privs_3 : List (MethodName × Nat) := [(⟨"GradeTextsModel", "isRing", "(I)Z"⟩, 19), (⟨"GradeTextsModel", "highOf", "(II)I"⟩, 19), (⟨"GradeTextsModel", "limitOf", "(II)I"⟩, 19), (⟨"GradeTextsModel", "reckon", "(III)V"⟩, 19), (⟨"GradeTextsModel", "adds", "(JI)V"⟩, 19), (⟨"GradeTextsModel", "isAbove", "(IIII)Z"⟩, 19), (⟨"GradeTextsModel", "tell", "(II)V"⟩, 19), (⟨"GradeTextsModel", "put", "(I)V"⟩, 19)]
theorem lw_r3 : ∀ q ∈ lw_privs_3, lw_okq q := List.forall_mem_cons.mpr ⟨lw_p32, List.forall_mem_cons.mpr ⟨lw_p33, List.forall_mem_cons.mpr ⟨lw_p34, List.forall_mem_cons.mpr ⟨lw_p35, List.forall_mem_cons.mpr ⟨lw_p36, List.forall_mem_cons.mpr ⟨lw_p37, List.forall_mem_cons.mpr ⟨lw_p38, List.forall_mem_cons.mpr ⟨lw_p39, fun _ h => absurd h List.not_mem_nil⟩⟩⟩⟩⟩⟩⟩⟩
def lw_privs : List (MethodName × Nat) := lw_privs_1 ++ (lw_privs_2 ++ (lw_privs_3))
def lw_tbl : List Cond := k2_sels lw_privs ++ tables_1
theorem lw_privs_ok : ∀ q ∈ lw_privs, lw_okq q := by
  show ∀ q ∈ lw_privs_1 ++ (lw_privs_2 ++ (lw_privs_3)), lw_okq q
  exact List.forall_mem_append.mpr ⟨lw_r1, List.forall_mem_append.mpr ⟨lw_r2, lw_r3⟩⟩
/-! the words that calls hand on -/
def TBL : List Cond := lw_tbl.filter goodWord
theorem TBL_good (w : Cond) (h : w ∈ TBL) : goodWord w = true := (List.mem_filter.mp h).2
theorem TBL_in (w : Cond) (h : w ∈ TBL) : w ∈ lw_tbl := (List.mem_filter.mp h).1
theorem tmem {w : Cond} (h : w ∈ lw_tbl) (hg : goodWord w = true) : w ∈ TBL := List.mem_filter.mpr ⟨h, hg⟩
theorem tm (k : Nat) {w : Cond} (h : tables_1[k]? = some w) (hg : goodWord w = true) : w ∈ TBL := tmem (List.mem_append_right _ (List.mem_of_getElem? h)) hg
theorem tsel (k : Nat) {w : Cond} (h : (k2_sels lw_privs)[k]? = some w) (hg : goodWord w = true) : w ∈ TBL := tmem (List.mem_append_left _ (List.mem_of_getElem? h)) hg
theorem jall {ws : List Cond} (h : ws.all (fun w => decide (w ∈ tables_1) && goodWord w) = true) : ∀ w ∈ ws, w ∈ TBL := fun w hw => by
  have h1 := List.all_eq_true.mp h w hw
  simp only [Bool.and_eq_true, decide_eq_true_eq] at h1
  exact tmem (List.mem_append_right _ h1.1) h1.2
end
section
/-! numbers: an int of the machine by a whole number -/
def jI (z : Int) : Int32 := Int32.ofInt z
def jL (z : Int) : Int64 := Int64.ofInt z
abbrev i32 (z : Int) : Prop := -2147483648 ≤ z ∧ z < 2147483648
abbrev i64 (z : Int) : Prop := -9223372036854775808 ≤ z ∧ z < 9223372036854775808
theorem jI_toInt {z : Int} (h : i32 z) : (jI z).toInt = z := Int32.toInt_ofInt_of_le (by omega) (by omega)
theorem jL_toInt {z : Int} (h : i64 z) : (jL z).toInt = z := Int64.toInt_ofInt_of_le (by omega) (by omega)
theorem jI_of (x : Int32) : ∃ z : Int, i32 z ∧ x = jI z := ⟨x.toInt, ⟨by have := Int32.le_toInt x; omega, by have := Int32.toInt_lt x; omega⟩, (Int32.ofInt_toInt x).symm⟩
theorem jL_of (x : Int64) : ∃ z : Int, i64 z ∧ x = jL z := ⟨x.toInt, ⟨by have := Int64.le_toInt x; omega, by have := Int64.toInt_lt x; omega⟩, (Int64.ofInt_toInt x).symm⟩
theorem jI_add (a b : Int) : jI a + jI b = jI (a + b) := (Int32.ofInt_add a b).symm
theorem jI_sub (a b : Int) : jI a - jI b = jI (a - b) := (Int32.ofInt_sub a b).symm
theorem jI_mul (a b : Int) : jI a * jI b = jI (a * b) := (Int32.ofInt_mul a b).symm
theorem jI_neg (a : Int) : -jI a = jI (-a) := (Int32.ofInt_neg a).symm
theorem jL_add (a b : Int) : jL a + jL b = jL (a + b) := (Int64.ofInt_add a b).symm
theorem jL_sub (a b : Int) : jL a - jL b = jL (a - b) := (Int64.ofInt_sub a b).symm
theorem jL_mul (a b : Int) : jL a * jL b = jL (a * b) := (Int64.ofInt_mul a b).symm
theorem jL_neg (a : Int) : -jL a = jL (-a) := (Int64.ofInt_neg a).symm
theorem jI_inj {a b : Int} (ha : i32 a) (hb : i32 b) : jI a = jI b ↔ a = b := by
  rw [← Int32.toInt_inj, jI_toInt ha, jI_toInt hb]
theorem jL_inj {a b : Int} (ha : i64 a) (hb : i64 b) : jL a = jL b ↔ a = b := by
  rw [← Int64.toInt_inj, jL_toInt ha, jL_toInt hb]
theorem jI_lt {a b : Int} (ha : i32 a) (hb : i32 b) : jI a < jI b ↔ a < b := by
  rw [Int32.lt_iff_toInt_lt, jI_toInt ha, jI_toInt hb]
theorem jI_le {a b : Int} (ha : i32 a) (hb : i32 b) : jI a ≤ jI b ↔ a ≤ b := by
  rw [Int32.le_iff_toInt_le, jI_toInt ha, jI_toInt hb]
theorem jL_lt {a b : Int} (ha : i64 a) (hb : i64 b) : jL a < jL b ↔ a < b := by
  rw [Int64.lt_iff_toInt_lt, jL_toInt ha, jL_toInt hb]
theorem jL_le {a b : Int} (ha : i64 a) (hb : i64 b) : jL a ≤ jL b ↔ a ≤ b := by
  rw [Int64.le_iff_toInt_le, jL_toInt ha, jL_toInt hb]
theorem jI_0 : (0 : Int32) = jI 0 := by decide
theorem jL_0 : (0 : Int64) = jL 0 := by decide
theorem i32_0 : i32 0 := by decide
theorem jI_clamp {z : Int} (h0 : 0 ≤ z) (h : z < 2147483648) : (jI z).toNatClampNeg = z.toNat := Int32.toNatClampNeg_ofInt_of_le (by omega) (by omega)
theorem jI_nat (n : Nat) : Int32.ofNat n = jI (n : Int) := Int32.ofInt_eq_ofNat.symm
theorem jI_L {z : Int} (h : i32 z) : (jI z).toInt64 = jL z := by
  have h1 : (jI z).toInt64.toInt = z := by rw [Int32.toInt_toInt64, jI_toInt h]
  rw [← Int64.toInt_inj, h1, jL_toInt (by omega)]
theorem jL_I (z : Int) : (jL z).toInt32 = jI z := Int64.toInt32_ofInt
theorem jI_div {a b : Int} (ha : i32 a) (hb : i32 b) (h1 : b ≠ -1) : jI a / jI b = jI (a.tdiv b) := by
  have hne : jI b ≠ -1 := fun q => h1 ((jI_inj hb (by decide : i32 (-1))).mp (by rw [q]; decide))
  have h := Int32.toInt_div_of_ne_right (jI a) (jI b) hne
  rw [jI_toInt ha, jI_toInt hb] at h
  have hr : jI a / jI b = Int32.ofInt (jI a / jI b).toInt := (Int32.ofInt_toInt _).symm
  rw [hr, h]; rfl
theorem jL_div {a b : Int} (ha : i64 a) (hb : i64 b) (h1 : b ≠ -1) : jL a / jL b = jL (a.tdiv b) := by
  have hne : jL b ≠ -1 := fun q => h1 ((jL_inj hb (by decide : i64 (-1))).mp (by rw [q]; decide))
  have h := Int64.toInt_div_of_ne_right (jL a) (jL b) hne
  rw [jL_toInt ha, jL_toInt hb] at h
  have hr : jL a / jL b = Int64.ofInt (jL a / jL b).toInt := (Int64.ofInt_toInt _).symm
  rw [hr, h]; rfl
theorem jI_rem {a b : Int} (ha : i32 a) (hb : i32 b) (h1 : b ≠ -1) : jI a - jI a / jI b * jI b = jI (a.tmod b) := by
  rw [jI_div ha hb h1, jI_mul, jI_sub, Int.tmod_def, Int.mul_comm]
theorem jL_rem {a b : Int} (ha : i64 a) (hb : i64 b) (h1 : b ≠ -1) : jL a - jL a / jL b * jL b = jL (a.tmod b) := by
  rw [jL_div ha hb h1, jL_mul, jL_sub, Int.tmod_def, Int.mul_comm]
/-! an int array by a function of whole numbers -/
def jA (f : Int → Int) : Nat → Int32 := fun j => jI (f (j : Int))
def jset (f : Int → Int) (i x : Int) : Int → Int := fun j => if j = i then x else f j
theorem jset_s (f : Int → Int) (i x : Int) : jset f i x i = x := if_pos rfl
theorem jset_n {f : Int → Int} {i x j : Int} (h : j ≠ i) : jset f i x j = f j := if_neg h
theorem jA_at {f : Int → Int} {i : Int} {n : Nat} (h0 : 0 ≤ i) (h1 : i < (n : Int)) (hn : n ≤ 2147483648) : jA f (jI i).toNatClampNeg = jI (f i) := by
  rw [jI_clamp h0 (by omega)]
  show jI (f (i.toNat : Int)) = jI (f i)
  rw [Int.toNat_of_nonneg h0]
theorem jA_in {i : Int} {n : Nat} (h0 : 0 ≤ i) (h1 : i < (n : Int)) (hn : n ≤ 2147483648) : vp_in (jI i) n := by
  rw [vp_in_iff, jI_toInt (by omega)]
  exact ⟨h0, h1⟩
theorem jA_upd {f : Int → Int} {i x : Int} {n : Nat} (h0 : 0 ≤ i) (h1 : i < (n : Int)) (hn : n ≤ 2147483648) : upd (jA f) (jI i).toNatClampNeg (jI x) = jA (jset f i x) := by
  rw [jI_clamp h0 (by omega)]
  funext j
  show (if j = i.toNat then jI x else jI (f (j : Int))) = jI (if (j : Int) = i then x else f (j : Int))
  by_cases h : j = i.toNat
  · rw [if_pos h, if_pos (by omega)]
  · rw [if_neg h, if_neg (by omega)]

section JR
variable {p : Program} {l : Launch} {e : Env} {R : Room} {s : State} {m : MethodId} {args : Array Value} {below : List Frame} {meth : Method} {c : Code} {H : Heap} {locs : List Loc} {cells slots : Nat} {Q : State → Prop}
variable {cc : ByteArray} {pc : Nat} {ls : Array Slot} {rest : List Value} {D : va_G} {cl : List vw_C} {A : Nat → Prop} {a : Nat} {tys : List (ClassId × FieldType)} {ws : va_W} {H0 : Heap}
theorem ji_iconst (hx : p.tables.exec = Jvm.exec) (hb : c.code = cc) {n : Int} (hdg : decode cc pc = .ok (.iconst n, 1)) (k : W p l e R s m args below meth c H locs cells slots Q (F0 m (pc + 1) ls (.int (jI n) :: rest))) : W p l e R s m args below meth c H locs cells slots Q (F0 m pc ls (rest)) := lv_iconst hx hb hdg rfl k
theorem ji_bipush (hx : p.tables.exec = Jvm.exec) (hb : c.code = cc) {n : Int} (hdg : decode cc pc = .ok (.bipush n, 2)) (hn : -128 ≤ n ∧ n < 128) (k : W p l e R s m args below meth c H locs cells slots Q (F0 m (pc + 2) ls (.int (jI n) :: rest))) : W p l e R s m args below meth c H locs cells slots Q (F0 m pc ls rest) := lv_bipush hx hb hdg (by rw [← Int32.toInt_inj, Int8.toInt_toInt32, jI_toInt (by omega)]; exact Int8.toInt_ofInt_of_le (by omega) (by omega)) k
theorem ji_sipush (hx : p.tables.exec = Jvm.exec) (hb : c.code = cc) {n : Int} (hdg : decode cc pc = .ok (.sipush n, 3)) (hn : -32768 ≤ n ∧ n < 32768) (k : W p l e R s m args below meth c H locs cells slots Q (F0 m (pc + 3) ls (.int (jI n) :: rest))) : W p l e R s m args below meth c H locs cells slots Q (F0 m pc ls rest) := lv_sipush hx hb hdg (by rw [← Int32.toInt_inj, Int16.toInt_toInt32, jI_toInt (by omega)]; exact Int16.toInt_ofInt_of_le (by omega) (by omega)) k
theorem ji_lconst (hx : p.tables.exec = Jvm.exec) (hb : c.code = cc) {n : Fin 2} {z : Int} (hdg : decode cc pc = .ok (.lconst n, 1)) (hz : z = ((n : Nat) : Int)) (k : W p l e R s m args below meth c H locs cells slots Q (F0 m (pc + 1) ls (.long (jL z) :: rest))) : W p l e R s m args below meth c H locs cells slots Q (F0 m pc ls rest) := lv_lconst hx hb hdg (by rw [hz]; exact Int64.ofInt_eq_ofNat.symm) k
theorem ji_iadd (hx : p.tables.exec = Jvm.exec) (hb : c.code = cc) {x y : Int} (hdg : decode cc pc = .ok (.iadd, 1)) (k : W p l e R s m args below meth c H locs cells slots Q (F0 m (pc + 1) ls (.int (jI (x + y)) :: rest))) : W p l e R s m args below meth c H locs cells slots Q (F0 m pc ls (.int (jI y) :: .int (jI x) :: rest)) := lv_iadd hx hb hdg (by rw [jI_add]; exact k)
theorem ji_ladd (hx : p.tables.exec = Jvm.exec) (hb : c.code = cc) {x y : Int} (hdg : decode cc pc = .ok (.ladd, 1)) (k : W p l e R s m args below meth c H locs cells slots Q (F0 m (pc + 1) ls (.long (jL (x + y)) :: rest))) : W p l e R s m args below meth c H locs cells slots Q (F0 m pc ls (.long (jL y) :: .long (jL x) :: rest)) := lv_ladd hx hb hdg (by rw [jL_add]; exact k)
theorem ji_isub (hx : p.tables.exec = Jvm.exec) (hb : c.code = cc) {x y : Int} (hdg : decode cc pc = .ok (.isub, 1)) (k : W p l e R s m args below meth c H locs cells slots Q (F0 m (pc + 1) ls (.int (jI (x - y)) :: rest))) : W p l e R s m args below meth c H locs cells slots Q (F0 m pc ls (.int (jI y) :: .int (jI x) :: rest)) := lv_isub hx hb hdg (by rw [jI_sub]; exact k)
theorem ji_lsub (hx : p.tables.exec = Jvm.exec) (hb : c.code = cc) {x y : Int} (hdg : decode cc pc = .ok (.lsub, 1)) (k : W p l e R s m args below meth c H locs cells slots Q (F0 m (pc + 1) ls (.long (jL (x - y)) :: rest))) : W p l e R s m args below meth c H locs cells slots Q (F0 m pc ls (.long (jL y) :: .long (jL x) :: rest)) := lv_lsub hx hb hdg (by rw [jL_sub]; exact k)
theorem ji_imul (hx : p.tables.exec = Jvm.exec) (hb : c.code = cc) {x y : Int} (hdg : decode cc pc = .ok (.imul, 1)) (k : W p l e R s m args below meth c H locs cells slots Q (F0 m (pc + 1) ls (.int (jI (x * y)) :: rest))) : W p l e R s m args below meth c H locs cells slots Q (F0 m pc ls (.int (jI y) :: .int (jI x) :: rest)) := lv_imul hx hb hdg (by rw [jI_mul]; exact k)
theorem ji_lmul (hx : p.tables.exec = Jvm.exec) (hb : c.code = cc) {x y : Int} (hdg : decode cc pc = .ok (.lmul, 1)) (k : W p l e R s m args below meth c H locs cells slots Q (F0 m (pc + 1) ls (.long (jL (x * y)) :: rest))) : W p l e R s m args below meth c H locs cells slots Q (F0 m pc ls (.long (jL y) :: .long (jL x) :: rest)) := lv_lmul hx hb hdg (by rw [jL_mul]; exact k)
theorem ji_ineg (hx : p.tables.exec = Jvm.exec) (hb : c.code = cc) {x : Int} (hdg : decode cc pc = .ok (.ineg, 1)) (k : W p l e R s m args below meth c H locs cells slots Q (F0 m (pc + 1) ls (.int (jI (-x)) :: rest))) : W p l e R s m args below meth c H locs cells slots Q (F0 m pc ls (.int (jI x) :: rest)) := lv_ineg hx hb hdg (by rw [jI_neg]; exact k)
theorem ji_idiv (hx : p.tables.exec = Jvm.exec) (hb : c.code = cc) {x y : Int} (hdg : decode cc pc = .ok (.idiv, 1)) (h1 : i32 x) (h2 : i32 y) (h3 : y ≠ 0) (h4 : y ≠ -1) (k : W p l e R s m args below meth c H locs cells slots Q (F0 m (pc + 1) ls (.int (jI (x.tdiv y)) :: rest))) : W p l e R s m args below meth c H locs cells slots Q (F0 m pc ls (.int (jI y) :: .int (jI x) :: rest)) := lv_idiv hx hb hdg (fun q => h3 ((jI_inj h2 (by decide)).mp (q.trans jI_0))) (by rw [jI_div h1 h2 h4]; exact k)
theorem ji_irem (hx : p.tables.exec = Jvm.exec) (hb : c.code = cc) {x y : Int} (hdg : decode cc pc = .ok (.irem, 1)) (h1 : i32 x) (h2 : i32 y) (h3 : y ≠ 0) (h4 : y ≠ -1) (k : W p l e R s m args below meth c H locs cells slots Q (F0 m (pc + 1) ls (.int (jI (x.tmod y)) :: rest))) : W p l e R s m args below meth c H locs cells slots Q (F0 m pc ls (.int (jI y) :: .int (jI x) :: rest)) := lv_irem hx hb hdg (fun q => h3 ((jI_inj h2 (by decide)).mp (q.trans jI_0))) (by rw [jI_rem h1 h2 h4]; exact k)
theorem ji_ldiv (hx : p.tables.exec = Jvm.exec) (hb : c.code = cc) {x y : Int} (hdg : decode cc pc = .ok (.ldiv, 1)) (h1 : i64 x) (h2 : i64 y) (h3 : y ≠ 0) (h4 : y ≠ -1) (k : W p l e R s m args below meth c H locs cells slots Q (F0 m (pc + 1) ls (.long (jL (x.tdiv y)) :: rest))) : W p l e R s m args below meth c H locs cells slots Q (F0 m pc ls (.long (jL y) :: .long (jL x) :: rest)) := lv_ldiv hx hb hdg (fun q => h3 ((jL_inj h2 (by decide)).mp (q.trans jL_0))) (by rw [jL_div h1 h2 h4]; exact k)
theorem ji_lrem (hx : p.tables.exec = Jvm.exec) (hb : c.code = cc) {x y : Int} (hdg : decode cc pc = .ok (.lrem, 1)) (h1 : i64 x) (h2 : i64 y) (h3 : y ≠ 0) (h4 : y ≠ -1) (k : W p l e R s m args below meth c H locs cells slots Q (F0 m (pc + 1) ls (.long (jL (x.tmod y)) :: rest))) : W p l e R s m args below meth c H locs cells slots Q (F0 m pc ls (.long (jL y) :: .long (jL x) :: rest)) := lv_lrem hx hb hdg (fun q => h3 ((jL_inj h2 (by decide)).mp (q.trans jL_0))) (by rw [jL_rem h1 h2 h4]; exact k)
theorem ji_i2l (hx : p.tables.exec = Jvm.exec) (hb : c.code = cc) {x : Int} (hdg : decode cc pc = .ok (.i2l, 1)) (h1 : i32 x) (k : W p l e R s m args below meth c H locs cells slots Q (F0 m (pc + 1) ls (.long (jL x) :: rest))) : W p l e R s m args below meth c H locs cells slots Q (F0 m pc ls (.int (jI x) :: rest)) := lv_i2l hx hb hdg (jI_L h1) k
theorem ji_l2i (hx : p.tables.exec = Jvm.exec) (hb : c.code = cc) {x : Int} (hdg : decode cc pc = .ok (.l2i, 1)) (k : W p l e R s m args below meth c H locs cells slots Q (F0 m (pc + 1) ls (.int (jI x) :: rest))) : W p l e R s m args below meth c H locs cells slots Q (F0 m pc ls (.long (jL x) :: rest)) := lv_l2i hx hb hdg (jL_I x) k
theorem ji_icmp_eq (hx : p.tables.exec = Jvm.exec) (hb : c.code = cc) {x y : Int} {off : Int} {tgt : Nat} (hdg : decode cc pc = .ok (.if_icmp .eq off, 3)) (ht : (pc : Int) + off = (tgt : Int)) (h1 : i32 x) (h2 : i32 y) (kt : x = y → W p l e R s m args below meth c H locs cells slots Q (F0 m tgt ls rest)) (kf : x ≠ y → W p l e R s m args below meth c H locs cells slots Q (F0 m (pc + 3) ls rest)) : W p l e R s m args below meth c H locs cells slots Q (F0 m pc ls (.int (jI y) :: .int (jI x) :: rest)) := lv_icmp_eq hx hb hdg ht (fun q => kt ((jI_inj h1 h2).mp q)) (fun q => kf (fun z => q ((jI_inj h1 h2).mpr z)))
theorem ji_if_eq (hx : p.tables.exec = Jvm.exec) (hb : c.code = cc) {x : Int} {off : Int} {tgt : Nat} (hdg : decode cc pc = .ok (.ifCond .eq off, 3)) (ht : (pc : Int) + off = (tgt : Int)) (h1 : i32 x) (kt : x = 0 → W p l e R s m args below meth c H locs cells slots Q (F0 m tgt ls rest)) (kf : x ≠ 0 → W p l e R s m args below meth c H locs cells slots Q (F0 m (pc + 3) ls rest)) : W p l e R s m args below meth c H locs cells slots Q (F0 m pc ls (.int (jI x) :: rest)) := lv_if_eq hx hb hdg ht (fun q => kt ((jI_inj h1 i32_0).mp (q.trans jI_0))) (fun q => kf (fun z => q (((jI_inj h1 i32_0).mpr z).trans jI_0.symm)))
theorem ji_icmp_ne (hx : p.tables.exec = Jvm.exec) (hb : c.code = cc) {x y : Int} {off : Int} {tgt : Nat} (hdg : decode cc pc = .ok (.if_icmp .ne off, 3)) (ht : (pc : Int) + off = (tgt : Int)) (h1 : i32 x) (h2 : i32 y) (kt : x ≠ y → W p l e R s m args below meth c H locs cells slots Q (F0 m tgt ls rest)) (kf : x = y → W p l e R s m args below meth c H locs cells slots Q (F0 m (pc + 3) ls rest)) : W p l e R s m args below meth c H locs cells slots Q (F0 m pc ls (.int (jI y) :: .int (jI x) :: rest)) := lv_icmp_ne hx hb hdg ht (fun q => kt (fun z => q ((jI_inj h1 h2).mpr z))) (fun q => kf ((jI_inj h1 h2).mp q))
theorem ji_if_ne (hx : p.tables.exec = Jvm.exec) (hb : c.code = cc) {x : Int} {off : Int} {tgt : Nat} (hdg : decode cc pc = .ok (.ifCond .ne off, 3)) (ht : (pc : Int) + off = (tgt : Int)) (h1 : i32 x) (kt : x ≠ 0 → W p l e R s m args below meth c H locs cells slots Q (F0 m tgt ls rest)) (kf : x = 0 → W p l e R s m args below meth c H locs cells slots Q (F0 m (pc + 3) ls rest)) : W p l e R s m args below meth c H locs cells slots Q (F0 m pc ls (.int (jI x) :: rest)) := lv_if_ne hx hb hdg ht (fun q => kt (fun z => q (((jI_inj h1 i32_0).mpr z).trans jI_0.symm))) (fun q => kf ((jI_inj h1 i32_0).mp (q.trans jI_0)))
theorem ji_icmp_lt (hx : p.tables.exec = Jvm.exec) (hb : c.code = cc) {x y : Int} {off : Int} {tgt : Nat} (hdg : decode cc pc = .ok (.if_icmp .lt off, 3)) (ht : (pc : Int) + off = (tgt : Int)) (h1 : i32 x) (h2 : i32 y) (kt : x < y → W p l e R s m args below meth c H locs cells slots Q (F0 m tgt ls rest)) (kf : y ≤ x → W p l e R s m args below meth c H locs cells slots Q (F0 m (pc + 3) ls rest)) : W p l e R s m args below meth c H locs cells slots Q (F0 m pc ls (.int (jI y) :: .int (jI x) :: rest)) := lv_icmp_lt hx hb hdg ht (fun q => kt ((jI_lt h1 h2).mp q)) (fun q => kf (by have q' := mt (jI_lt h1 h2).mpr q; omega))
theorem ji_if_lt (hx : p.tables.exec = Jvm.exec) (hb : c.code = cc) {x : Int} {off : Int} {tgt : Nat} (hdg : decode cc pc = .ok (.ifCond .lt off, 3)) (ht : (pc : Int) + off = (tgt : Int)) (h1 : i32 x) (kt : x < 0 → W p l e R s m args below meth c H locs cells slots Q (F0 m tgt ls rest)) (kf : 0 ≤ x → W p l e R s m args below meth c H locs cells slots Q (F0 m (pc + 3) ls rest)) : W p l e R s m args below meth c H locs cells slots Q (F0 m pc ls (.int (jI x) :: rest)) := lv_if_lt hx hb hdg ht (fun q => kt ((jI_lt h1 i32_0).mp (by rw [jI_0] at q; exact q))) (fun q => kf (by rw [jI_0] at q; have q' := mt (jI_lt h1 i32_0).mpr q; omega))
theorem ji_icmp_ge (hx : p.tables.exec = Jvm.exec) (hb : c.code = cc) {x y : Int} {off : Int} {tgt : Nat} (hdg : decode cc pc = .ok (.if_icmp .ge off, 3)) (ht : (pc : Int) + off = (tgt : Int)) (h1 : i32 x) (h2 : i32 y) (kt : y ≤ x → W p l e R s m args below meth c H locs cells slots Q (F0 m tgt ls rest)) (kf : x < y → W p l e R s m args below meth c H locs cells slots Q (F0 m (pc + 3) ls rest)) : W p l e R s m args below meth c H locs cells slots Q (F0 m pc ls (.int (jI y) :: .int (jI x) :: rest)) := lv_icmp_ge hx hb hdg ht (fun q => kt ((jI_le h2 h1).mp q)) (fun q => kf (by have q' := mt (jI_le h2 h1).mpr q; omega))
theorem ji_if_ge (hx : p.tables.exec = Jvm.exec) (hb : c.code = cc) {x : Int} {off : Int} {tgt : Nat} (hdg : decode cc pc = .ok (.ifCond .ge off, 3)) (ht : (pc : Int) + off = (tgt : Int)) (h1 : i32 x) (kt : 0 ≤ x → W p l e R s m args below meth c H locs cells slots Q (F0 m tgt ls rest)) (kf : x < 0 → W p l e R s m args below meth c H locs cells slots Q (F0 m (pc + 3) ls rest)) : W p l e R s m args below meth c H locs cells slots Q (F0 m pc ls (.int (jI x) :: rest)) := lv_if_ge hx hb hdg ht (fun q => kt ((jI_le i32_0 h1).mp (by rw [jI_0] at q; exact q))) (fun q => kf (by rw [jI_0] at q; have q' := mt (jI_le i32_0 h1).mpr q; omega))
theorem ji_icmp_gt (hx : p.tables.exec = Jvm.exec) (hb : c.code = cc) {x y : Int} {off : Int} {tgt : Nat} (hdg : decode cc pc = .ok (.if_icmp .gt off, 3)) (ht : (pc : Int) + off = (tgt : Int)) (h1 : i32 x) (h2 : i32 y) (kt : y < x → W p l e R s m args below meth c H locs cells slots Q (F0 m tgt ls rest)) (kf : x ≤ y → W p l e R s m args below meth c H locs cells slots Q (F0 m (pc + 3) ls rest)) : W p l e R s m args below meth c H locs cells slots Q (F0 m pc ls (.int (jI y) :: .int (jI x) :: rest)) := lv_icmp_gt hx hb hdg ht (fun q => kt ((jI_lt h2 h1).mp q)) (fun q => kf (by have q' := mt (jI_lt h2 h1).mpr q; omega))
theorem ji_if_gt (hx : p.tables.exec = Jvm.exec) (hb : c.code = cc) {x : Int} {off : Int} {tgt : Nat} (hdg : decode cc pc = .ok (.ifCond .gt off, 3)) (ht : (pc : Int) + off = (tgt : Int)) (h1 : i32 x) (kt : 0 < x → W p l e R s m args below meth c H locs cells slots Q (F0 m tgt ls rest)) (kf : x ≤ 0 → W p l e R s m args below meth c H locs cells slots Q (F0 m (pc + 3) ls rest)) : W p l e R s m args below meth c H locs cells slots Q (F0 m pc ls (.int (jI x) :: rest)) := lv_if_gt hx hb hdg ht (fun q => kt ((jI_lt i32_0 h1).mp (by rw [jI_0] at q; exact q))) (fun q => kf (by rw [jI_0] at q; have q' := mt (jI_lt i32_0 h1).mpr q; omega))
theorem ji_icmp_le (hx : p.tables.exec = Jvm.exec) (hb : c.code = cc) {x y : Int} {off : Int} {tgt : Nat} (hdg : decode cc pc = .ok (.if_icmp .le off, 3)) (ht : (pc : Int) + off = (tgt : Int)) (h1 : i32 x) (h2 : i32 y) (kt : x ≤ y → W p l e R s m args below meth c H locs cells slots Q (F0 m tgt ls rest)) (kf : y < x → W p l e R s m args below meth c H locs cells slots Q (F0 m (pc + 3) ls rest)) : W p l e R s m args below meth c H locs cells slots Q (F0 m pc ls (.int (jI y) :: .int (jI x) :: rest)) := lv_icmp_le hx hb hdg ht (fun q => kt ((jI_le h1 h2).mp q)) (fun q => kf (by have q' := mt (jI_le h1 h2).mpr q; omega))
theorem ji_if_le (hx : p.tables.exec = Jvm.exec) (hb : c.code = cc) {x : Int} {off : Int} {tgt : Nat} (hdg : decode cc pc = .ok (.ifCond .le off, 3)) (ht : (pc : Int) + off = (tgt : Int)) (h1 : i32 x) (kt : x ≤ 0 → W p l e R s m args below meth c H locs cells slots Q (F0 m tgt ls rest)) (kf : 0 < x → W p l e R s m args below meth c H locs cells slots Q (F0 m (pc + 3) ls rest)) : W p l e R s m args below meth c H locs cells slots Q (F0 m pc ls (.int (jI x) :: rest)) := lv_if_le hx hb hdg ht (fun q => kt ((jI_le h1 i32_0).mp (by rw [jI_0] at q; exact q))) (fun q => kf (by rw [jI_0] at q; have q' := mt (jI_le h1 i32_0).mpr q; omega))
def jcmp (x y : Int) : Int := if y < x then 1 else if x = y then 0 else -1
theorem jcmp_i (x y : Int) : i32 (jcmp x y) := by unfold jcmp; split <;> (try split) <;> decide
theorem jcmp_lt {x y : Int} : jcmp x y < 0 ↔ x < y := by unfold jcmp; split <;> (try split) <;> omega
theorem jcmp_gt {x y : Int} : 0 < jcmp x y ↔ y < x := by unfold jcmp; split <;> (try split) <;> omega
theorem jcmp_eq {x y : Int} : jcmp x y = 0 ↔ x = y := by unfold jcmp; split <;> (try split) <;> omega
theorem jcmp_of {x y : Int} (h1 : i64 x) (h2 : i64 y) : lg_cmp (jL x) (jL y) = jI (jcmp x y) := by
  unfold lg_cmp jcmp
  by_cases q : y < x
  · rw [if_pos q, if_pos (show jL x > jL y from (jL_lt h2 h1).mpr q)]; decide
  · rw [if_neg q, if_neg (show ¬ jL x > jL y from fun z => q ((jL_lt h2 h1).mp z))]
    by_cases q2 : x = y
    · rw [if_pos q2, if_pos ((jL_inj h1 h2).mpr q2)]; decide
    · rw [if_neg q2, if_neg (fun z => q2 ((jL_inj h1 h2).mp z))]; decide
theorem ji_lcmp (hx : p.tables.exec = Jvm.exec) (hb : c.code = cc) {x y : Int} (hdg : decode cc pc = .ok (.lcmp, 1)) (h1 : i64 x) (h2 : i64 y) (k : W p l e R s m args below meth c H locs cells slots Q (F0 m (pc + 1) ls (.int (jI (jcmp x y)) :: rest))) : W p l e R s m args below meth c H locs cells slots Q (F0 m pc ls (.long (jL y) :: .long (jL x) :: rest)) := W.lcmp hx hb hdg (by rw [jcmp_of h1 h2]; exact k)
theorem ji_top {x : Int} (k : ∀ y : Int, y = x → W p l e R s m args below meth c H locs cells slots Q (F0 m pc ls (.int (jI y) :: rest))) : W p l e R s m args below meth c H locs cells slots Q (F0 m pc ls (.int (jI x) :: rest)) := k x rfl
theorem ji_topl {x : Int} (k : ∀ y : Int, y = x → W p l e R s m args below meth c H locs cells slots Q (F0 m pc ls (.long (jL y) :: rest))) : W p l e R s m args below meth c H locs cells slots Q (F0 m pc ls (.long (jL x) :: rest)) := k x rfl
theorem ji_re {x : Int32} {y : Int} (h : x = jI y) (k : W p l e R s m args below meth c H locs cells slots Q (F0 m pc ls (.int (jI y) :: rest))) : W p l e R s m args below meth c H locs cells slots Q (F0 m pc ls (.int x :: rest)) := by rw [h]; exact k
theorem ji_rel {x : Int64} {y : Int} (h : x = jL y) (k : W p l e R s m args below meth c H locs cells slots Q (F0 m pc ls (.long (jL y) :: rest))) : W p l e R s m args below meth c H locs cells slots Q (F0 m pc ls (.long x :: rest)) := by rw [h]; exact k
theorem ji_as {x y : Int} (h : x = y) (k : W p l e R s m args below meth c H locs cells slots Q (F0 m pc ls (.int (jI y) :: rest))) : W p l e R s m args below meth c H locs cells slots Q (F0 m pc ls (.int (jI x) :: rest)) := by rw [h]; exact k
theorem ji_asl {x y : Int} (h : x = y) (k : W p l e R s m args below meth c H locs cells slots Q (F0 m pc ls (.long (jL y) :: rest))) : W p l e R s m args below meth c H locs cells slots Q (F0 m pc ls (.long (jL x) :: rest)) := by rw [h]; exact k
theorem ji_iinc (hx : p.tables.exec = Jvm.exec) (hb : c.code = cc) {i nL k : Nat} {n : Int} {x : Int} {lv lv' : List (Nat × Value)} (hdg : decode cc pc = .ok (.iinc i n, 3)) (h : lv_has ls nL lv) (hk : lv[k]? = some (i, .int (jI x))) (hn : i < nL) (hl : (i, Value.int (jI (x + n))) :: lv.filter (fun q => !(q.1 == i) && !(q.1 + 1 == i && q.2.category == 2)) = lv') (kk : ∀ ls', lv_has ls' nL lv' → W p l e R s m args below meth c H locs cells slots Q (F0 m (pc + 3) ls' rest)) : W p l e R s m args below meth c H locs cells slots Q (F0 m pc ls rest) := lv_iinc (v := jI (x + n)) hx hb hdg h hk (jI_add x n) hn hl kk
theorem ji_iald (hx : p.tables.exec = Jvm.exec) (hb : c.code = cc) (hK : va_K D cl tys s) (hP : va_P D cl ws H) (q0 t0 : Nat) {cA : ClassId} {n : Nat} {f : Int → Int} (ha : ws[q0]? = some (a, .inl (cA, n, .inl (jA f)))) (ht : tys[t0]? = some (cA, .int)) {i : Int} (h0 : 0 ≤ i ∧ i < (n : Int)) (hn : n ≤ 2147483648) (hdg : decode cc pc = .ok (.iaload, 1)) (kk : W p l e R s m args below meth c H locs cells slots Q (F0 m (pc + 1) ls (.int (jI (f i)) :: rest))) : W p l e R s m args below meth c H locs cells slots Q (F0 m pc ls (.int (jI i) :: .ref a :: rest)) := va_iald hx hb hK hP q0 t0 ha ht (jA_in h0.1 h0.2 hn) hdg (by rw [jA_at h0.1 h0.2 hn]; exact kk)
theorem ji_iast (hx : p.tables.exec = Jvm.exec) (hb : c.code = cc) (hK : va_K D cl tys s) (hP : va_P D cl ws H) (hD : va_D A ws) (hS : va_S A H0 H locs) (q0 t0 : Nat) {cA : ClassId} {n : Nat} {f : Int → Int} (ha : ws[q0]? = some (a, .inl (cA, n, .inl (jA f)))) (ht : tys[t0]? = some (cA, .int)) {i x : Int} (h0 : 0 ≤ i ∧ i < (n : Int)) (hn : n ≤ 2147483648) (hdg : decode cc pc = .ok (.iastore, 1)) (kk : ∀ (H1 : Heap) (locs1 : List Loc), va_P D cl (ws.set q0 (a, .inl (cA, n, .inl (jA (jset f i x))))) H1 → va_D A (ws.set q0 (a, .inl (cA, n, .inl (jA (jset f i x))))) → va_S A H0 H1 locs1 → W p l e R s m args below meth c H1 locs1 cells slots Q (F0 m (pc + 1) ls rest)) : W p l e R s m args below meth c H locs cells slots Q (F0 m pc ls (.int (jI x) :: .int (jI i) :: .ref a :: rest)) := va_iast hx hb hK hP hD hS q0 t0 ha ht (jA_in h0.1 h0.2 hn) hdg (by rw [jA_upd h0.1 h0.2 hn]; exact kk)
theorem ji_alen (hx : p.tables.exec = Jvm.exec) (hb : c.code = cc) (hK : va_K D cl tys s) (hP : va_P D cl ws H) (q0 t0 : Nat) {cA : ClassId} {n : Nat} {f : Int → Int} (ha : ws[q0]? = some (a, .inl (cA, n, .inl (jA f)))) (ht : tys[t0]? = some (cA, .int)) {z : Int} (hz : z = (n : Int)) (hdg : decode cc pc = .ok (.arraylength, 1)) (kk : W p l e R s m args below meth c H locs cells slots Q (F0 m (pc + 1) ls (.int (jI z) :: rest))) : W p l e R s m args below meth c H locs cells slots Q (F0 m pc ls (.ref a :: rest)) := va_alen hx hb hK hP q0 t0 ha ht (by rw [hz]; exact jI_nat n) hdg kk
end JR
/-! truth values as ints -/
def b2i (P : Prop) [Decidable P] : Int := if P then 1 else 0
theorem b2i_0 {P : Prop} [Decidable P] : b2i P = 0 ↔ ¬ P := by unfold b2i; split <;> simp_all
theorem b2i_1 {P : Prop} [Decidable P] : b2i P ≠ 0 ↔ P := by unfold b2i; split <;> simp_all
theorem b2i_i (P : Prop) [Decidable P] : i32 (b2i P) := by unfold b2i; split <;> decide
theorem b2i_n (P : Prop) [Decidable P] : narrow .boolean (.int (jI (b2i P))) = .int (jI (b2i P)) := by unfold b2i; split <;> decide
theorem b2i_t {P : Prop} [Decidable P] (h : P) : b2i P = 1 := if_pos h
theorem b2i_f {P : Prop} [Decidable P] (h : ¬ P) : b2i P = 0 := if_neg h
theorem b2i_c {P R : Prop} [Decidable P] [Decidable R] (h : P ↔ R) : b2i P = b2i R := by unfold b2i; by_cases q : P <;> simp [q, ← h]
theorem jcmp_nlt {x y : Int} : 0 ≤ jcmp x y ↔ y ≤ x := by unfold jcmp; split <;> (try split) <;> omega
theorem jcmp_ngt {x y : Int} : jcmp x y ≤ 0 ↔ x ≤ y := by unfold jcmp; split <;> (try split) <;> omega
theorem jcmp_ne {x y : Int} : jcmp x y ≠ 0 ↔ x ≠ y := by unfold jcmp; split <;> (try split) <;> omega
end
section
def RXB : String := "GradeTexts$Book"
def RXP : String := "GradeTexts$Page"
def RXR : String := "GradeTexts$Reader"
def RXT : String := "GradeTexts$Tape"
def RXG : String := "GradeTexts"
def RXA : String := "java/util/Arrays"
def RXI : String := "java/lang/Integer"
def RXO : String := "java/lang/Object"
def TXB : u_T := fun k => match k with
  | 0 => ("GradeTexts$Book", "toldParents", "[I", true)
  | 1 => ("GradeTexts$Book", "parents", "[I", true)
  | 2 => ("GradeTexts$Book", "lows", "[I", true)
  | 3 => ("GradeTexts$Book", "highs", "[I", true)
  | 4 => ("GradeTexts$Book", "limits", "[I", true)
  | 5 => ("GradeTexts$Book", "routes", "[I", true)
  | 6 => ("GradeTexts$Book", "divisors", "[I", true)
  | 7 => ("GradeTexts$Book", "grades", "I", false)
  | _ => ("GradeTexts$Book", "formulas", "I", false)
def tyXB : Nat → FieldType := fun k => match k with
  | 0 => .array .int
  | 1 => .array .int
  | 2 => .array .int
  | 3 => .array .int
  | 4 => .array .int
  | 5 => .array .int
  | 6 => .array .int
  | 7 => .int
  | _ => .int
theorem nXB : ∀ a, a < 9 → ∀ b, b < 9 → a ≠ b → (TXB a).2.1 ≠ (TXB b).2.1 := by decide +kernel
theorem tyXB_ok : ∀ k, k < 9 → parseFieldDescriptor (TXB k).2.2.1 = some (tyXB k) := by decide +kernel
theorem inXB : ∀ w ∈ u_ws RXB TXB 9, w ∈ TBL := jall (by decide +kernel)
def TXP : u_T := fun k => match k with
  | 0 => ("GradeTexts$Page", "signs", "[I", true)
  | _ => ("GradeTexts$Page", "length", "I", false)
def tyXP : Nat → FieldType := fun k => match k with
  | 0 => .array .int
  | _ => .int
theorem nXP : ∀ a, a < 2 → ∀ b, b < 2 → a ≠ b → (TXP a).2.1 ≠ (TXP b).2.1 := by decide +kernel
theorem tyXP_ok : ∀ k, k < 2 → parseFieldDescriptor (TXP k).2.2.1 = some (tyXP k) := by decide +kernel
theorem inXP : ∀ w ∈ u_ws RXP TXP 2, w ∈ TBL := jall (by decide +kernel)
def TXR : u_T := fun k => match k with
  | _ => ("GradeTexts$Reader", "tape", "LGradeTexts$Tape;", true)
def tyXR : Nat → FieldType := fun k => match k with
  | _ => .object "GradeTexts$Tape"
theorem nXR : ∀ a, a < 1 → ∀ b, b < 1 → a ≠ b → (TXR a).2.1 ≠ (TXR b).2.1 := by decide +kernel
theorem tyXR_ok : ∀ k, k < 1 → parseFieldDescriptor (TXR k).2.2.1 = some (tyXR k) := by decide +kernel
theorem inXR : ∀ w ∈ u_ws RXR TXR 1, w ∈ TBL := jall (by decide +kernel)
def TXT : u_T := fun k => match k with
  | 0 => ("GradeTexts$Tape", "signs", "[I", true)
  | 1 => ("GradeTexts$Tape", "length", "I", false)
  | 2 => ("GradeTexts$Tape", "place", "I", false)
  | _ => ("GradeTexts$Tape", "wrong", "I", false)
def tyXT : Nat → FieldType := fun k => match k with
  | 0 => .array .int
  | 1 => .int
  | 2 => .int
  | _ => .int
theorem nXT : ∀ a, a < 4 → ∀ b, b < 4 → a ≠ b → (TXT a).2.1 ≠ (TXT b).2.1 := by decide +kernel
theorem tyXT_ok : ∀ k, k < 4 → parseFieldDescriptor (TXT k).2.2.1 = some (tyXT k) := by decide +kernel
theorem inXT : ∀ w ∈ u_ws RXT TXT 4, w ∈ TBL := jall (by decide +kernel)
def TXG : u_T := fun k => match k with
  | 0 => ("GradeTexts", "tape", "LGradeTexts$Tape;", true)
  | 1 => ("GradeTexts", "reader", "LGradeTexts$Reader;", true)
  | 2 => ("GradeTexts", "page", "LGradeTexts$Page;", true)
  | 3 => ("GradeTexts", "shares", "[I", true)
  | 4 => ("GradeTexts", "ends", "[I", true)
  | 5 => ("GradeTexts", "book", "LGradeTexts$Book;", false)
  | _ => ("GradeTexts", "spare", "LGradeTexts$Book;", false)
def tyXG : Nat → FieldType := fun k => match k with
  | 0 => .object "GradeTexts$Tape"
  | 1 => .object "GradeTexts$Reader"
  | 2 => .object "GradeTexts$Page"
  | 3 => .array .int
  | 4 => .array .int
  | 5 => .object "GradeTexts$Book"
  | _ => .object "GradeTexts$Book"
theorem nXG : ∀ a, a < 7 → ∀ b, b < 7 → a ≠ b → (TXG a).2.1 ≠ (TXG b).2.1 := by decide +kernel
theorem tyXG_ok : ∀ k, k < 7 → parseFieldDescriptor (TXG k).2.2.1 = some (tyXG k) := by decide +kernel
theorem inXG : ∀ w ∈ u_ws RXG TXG 7, w ∈ TBL := jall (by decide +kernel)
abbrev cXG_init : ByteArray := prog_1_method_1_code
def yXG_init : MethodName := ⟨RXG, "<init>", "()V"⟩
abbrev cXO_init : ByteArray := object_method_1_code
def yXO_init : MethodName := ⟨RXO, "<init>", "()V"⟩
abbrev cXT_init : ByteArray := prog_5_method_1_code
def yXT_init : MethodName := ⟨RXT, "<init>", "()V"⟩
abbrev cXR_init : ByteArray := prog_4_method_1_code
def yXR_init : MethodName := ⟨RXR, "<init>", "(LGradeTexts$Tape;)V"⟩
abbrev cXP_init : ByteArray := prog_3_method_1_code
def yXP_init : MethodName := ⟨RXP, "<init>", "()V"⟩
abbrev cXB_init : ByteArray := prog_2_method_1_code
def yXB_init : MethodName := ⟨RXB, "<init>", "()V"⟩
abbrev cXG_read : ByteArray := prog_1_method_3_code
def yXG_read : MethodName := ⟨RXG, "read", "()I"⟩
abbrev cXB_forget : ByteArray := prog_2_method_2_code
def yXB_forget : MethodName := ⟨RXB, "forget", "()V"⟩
abbrev cXA_fill : ByteArray := prog_17_method_103_code
def yXA_fill : MethodName := ⟨RXA, "fill", "([II)V"⟩
abbrev cXR_text : ByteArray := prog_4_method_2_code
def yXR_text : MethodName := ⟨RXR, "text", "(LGradeTexts$Book;)Z"⟩
abbrev cXT_rewind : ByteArray := prog_5_method_5_code
def yXT_rewind : MethodName := ⟨RXT, "rewind", "()V"⟩
abbrev cXT_next : ByteArray := prog_5_method_10_code
def yXT_next : MethodName := ⟨RXT, "next", "()I"⟩
abbrev cXR_row : ByteArray := prog_4_method_3_code
def yXR_row : MethodName := ⟨RXR, "row", "(LGradeTexts$Book;)Z"⟩
abbrev cXT_skipIf : ByteArray := prog_5_method_11_code
def yXT_skipIf : MethodName := ⟨RXT, "skipIf", "(I)Z"⟩
abbrev cXR_formula : ByteArray := prog_4_method_4_code
def yXR_formula : MethodName := ⟨RXR, "formula", "(LGradeTexts$Book;)Z"⟩
abbrev cXT_takeOneOf : ByteArray := prog_5_method_13_code
def yXT_takeOneOf : MethodName := ⟨RXT, "takeOneOf", "(II)I"⟩
abbrev cXT_refuse : ByteArray := prog_5_method_7_code
def yXT_refuse : MethodName := ⟨RXT, "refuse", "()Z"⟩
abbrev cXB_hasFormula : ByteArray := prog_2_method_5_code
def yXB_hasFormula : MethodName := ⟨RXB, "hasFormula", "(I)Z"⟩
abbrev cXG_hasBit : ByteArray := prog_1_method_23_code
def yXG_hasBit : MethodName := ⟨RXG, "hasBit", "(II)Z"⟩
abbrev cXT_refuseLast : ByteArray := prog_5_method_8_code
def yXT_refuseLast : MethodName := ⟨RXT, "refuseLast", "()Z"⟩
abbrev cXB_tellFormula : ByteArray := prog_2_method_9_code
def yXB_tellFormula : MethodName := ⟨RXB, "tellFormula", "(I)V"⟩
abbrev cXT_take : ByteArray := prog_5_method_12_code
def yXT_take : MethodName := ⟨RXT, "take", "(I)Z"⟩
abbrev cXR_terms : ByteArray := prog_4_method_5_code
def yXR_terms : MethodName := ⟨RXR, "terms", "(LGradeTexts$Book;I)Z"⟩
abbrev cXB_divisorOf : ByteArray := prog_2_method_6_code
def yXB_divisorOf : MethodName := ⟨RXB, "divisorOf", "(II)I"⟩
abbrev cXT_number : ByteArray := prog_5_method_14_code
def yXT_number : MethodName := ⟨RXT, "number", "(II)I"⟩
abbrev cXG_isDigit : ByteArray := prog_1_method_24_code
def yXG_isDigit : MethodName := ⟨RXG, "isDigit", "(I)Z"⟩
abbrev cXT_here : ByteArray := prog_5_method_9_code
def yXT_here : MethodName := ⟨RXT, "here", "()I"⟩
abbrev cXB_tellTerm : ByteArray := prog_2_method_10_code
def yXB_tellTerm : MethodName := ⟨RXB, "tellTerm", "(III)V"⟩
abbrev cXR_grade : ByteArray := prog_4_method_6_code
def yXR_grade : MethodName := ⟨RXR, "grade", "(LGradeTexts$Book;)Z"⟩
abbrev cXB_knows : ByteArray := prog_2_method_4_code
def yXB_knows : MethodName := ⟨RXB, "knows", "(I)Z"⟩
abbrev cXB_tellGrade : ByteArray := prog_2_method_11_code
def yXB_tellGrade : MethodName := ⟨RXB, "tellGrade", "(I)V"⟩
abbrev cXR_parent : ByteArray := prog_4_method_7_code
def yXR_parent : MethodName := ⟨RXR, "parent", "(LGradeTexts$Book;I)Z"⟩
abbrev cXB_tellParent : ByteArray := prog_2_method_12_code
def yXB_tellParent : MethodName := ⟨RXB, "tellParent", "(II)V"⟩
abbrev cXR_spans : ByteArray := prog_4_method_8_code
def yXR_spans : MethodName := ⟨RXR, "spans", "(LGradeTexts$Book;I)Z"⟩
abbrev cXG_isElement : ByteArray := prog_1_method_25_code
def yXG_isElement : MethodName := ⟨RXG, "isElement", "(I)Z"⟩
abbrev cXB_tellsSpan : ByteArray := prog_2_method_7_code
def yXB_tellsSpan : MethodName := ⟨RXB, "tellsSpan", "(II)Z"⟩
abbrev cXB_tellSpan : ByteArray := prog_2_method_13_code
def yXB_tellSpan : MethodName := ⟨RXB, "tellSpan", "(IIII)V"⟩
abbrev cXR_routes : ByteArray := prog_4_method_9_code
def yXR_routes : MethodName := ⟨RXR, "routes", "(LGradeTexts$Book;I)Z"⟩
abbrev cXB_tellRoute : ByteArray := prog_2_method_14_code
def yXB_tellRoute : MethodName := ⟨RXB, "tellRoute", "(II)V"⟩
abbrev cXR_limits : ByteArray := prog_4_method_10_code
def yXR_limits : MethodName := ⟨RXR, "limits", "(LGradeTexts$Book;I)Z"⟩
abbrev cXB_tellsLimit : ByteArray := prog_2_method_8_code
def yXB_tellsLimit : MethodName := ⟨RXB, "tellsLimit", "(II)Z"⟩
abbrev cXB_tellLimit : ByteArray := prog_2_method_15_code
def yXB_tellLimit : MethodName := ⟨RXB, "tellLimit", "(III)V"⟩
abbrev cXT_empty : ByteArray := prog_5_method_4_code
def yXT_empty : MethodName := ⟨RXT, "empty", "()V"⟩
abbrev cXT_wrongPlace : ByteArray := prog_5_method_6_code
def yXT_wrongPlace : MethodName := ⟨RXT, "wrongPlace", "()I"⟩
abbrev cXB_settle : ByteArray := prog_2_method_16_code
def yXB_settle : MethodName := ⟨RXB, "settle", "()V"⟩
abbrev cXB_onRing : ByteArray := prog_2_method_17_code
def yXB_onRing : MethodName := ⟨RXB, "onRing", "(I)Z"⟩
abbrev cXB_count : ByteArray := prog_2_method_3_code
def yXB_count : MethodName := ⟨RXB, "count", "()I"⟩
abbrev cXI_bitCount : ByteArray := prog_12_method_49_code
def yXI_bitCount : MethodName := ⟨RXI, "bitCount", "(I)I"⟩
abbrev cXG_clear : ByteArray := prog_1_method_16_code
def yXG_clear : MethodName := ⟨RXG, "clear", "()V"⟩
abbrev cXG_sign : ByteArray := prog_1_method_2_code
def yXG_sign : MethodName := ⟨RXG, "sign", "(JI)I"⟩
abbrev cXT_hasRoom : ByteArray := prog_5_method_2_code
def yXT_hasRoom : MethodName := ⟨RXT, "hasRoom", "(I)Z"⟩
abbrev cXT_append : ByteArray := prog_5_method_3_code
def yXT_append : MethodName := ⟨RXT, "append", "(JI)I"⟩
abbrev cXG_span : ByteArray := prog_1_method_4_code
def yXG_span : MethodName := ⟨RXG, "span", "(III)I"⟩
abbrev cXG_needGrade : ByteArray := prog_1_method_17_code
def yXG_needGrade : MethodName := ⟨RXG, "needGrade", "(I)V"⟩
abbrev cXG_needBelow : ByteArray := prog_1_method_18_code
def yXG_needBelow : MethodName := ⟨RXG, "needBelow", "(II)V"⟩
abbrev cXB_endOf : ByteArray := prog_2_method_18_code
def yXB_endOf : MethodName := ⟨RXB, "endOf", "(III)I"⟩
abbrev cXG_limit : ByteArray := prog_1_method_5_code
def yXG_limit : MethodName := ⟨RXG, "limit", "(II)I"⟩
abbrev cXB_limitOf : ByteArray := prog_2_method_19_code
def yXB_limitOf : MethodName := ⟨RXB, "limitOf", "(II)I"⟩
abbrev cXG_equivalent : ByteArray := prog_1_method_6_code
def yXG_equivalent : MethodName := ⟨RXG, "equivalent", "(IIII)J"⟩
abbrev cXG_needFormula : ByteArray := prog_1_method_20_code
def yXG_needFormula : MethodName := ⟨RXG, "needFormula", "(I)V"⟩
abbrev cXB_copyEnds : ByteArray := prog_2_method_21_code
def yXB_copyEnds : MethodName := ⟨RXB, "copyEnds", "(II[I)V"⟩
abbrev cXB_scaledSum : ByteArray := prog_2_method_22_code
def yXB_scaledSum : MethodName := ⟨RXB, "scaledSum", "(I[I)J"⟩
abbrev cXG_inLowestTerms : ByteArray := prog_1_method_21_code
def yXG_inLowestTerms : MethodName := ⟨RXG, "inLowestTerms", "(JI)J"⟩
abbrev cXG_greatestDivisor : ByteArray := prog_1_method_22_code
def yXG_greatestDivisor : MethodName := ⟨RXG, "greatestDivisor", "(JJ)J"⟩
abbrev cXG_share : ByteArray := prog_1_method_7_code
def yXG_share : MethodName := ⟨RXG, "share", "(II)V"⟩
abbrev cXG_value : ByteArray := prog_1_method_8_code
def yXG_value : MethodName := ⟨RXG, "value", "(II)J"⟩
abbrev cXG_fits : ByteArray := prog_1_method_9_code
def yXG_fits : MethodName := ⟨RXG, "fits", "(I)I"⟩
abbrev cXB_firstKindAbove : ByteArray := prog_2_method_23_code
def yXB_firstKindAbove : MethodName := ⟨RXB, "firstKindAbove", "(I[I)I"⟩
abbrev cXG_holds : ByteArray := prog_1_method_10_code
def yXG_holds : MethodName := ⟨RXG, "holds", "(II)Z"⟩
abbrev cXG_ring : ByteArray := prog_1_method_11_code
def yXG_ring : MethodName := ⟨RXG, "ring", "(I)I"⟩
abbrev cXG_needPlace : ByteArray := prog_1_method_19_code
def yXG_needPlace : MethodName := ⟨RXG, "needPlace", "(I)V"⟩
abbrev cXG_route : ByteArray := prog_1_method_12_code
def yXG_route : MethodName := ⟨RXG, "route", "(II)I"⟩
abbrev cXB_routesOf : ByteArray := prog_2_method_20_code
def yXB_routesOf : MethodName := ⟨RXB, "routesOf", "(I)I"⟩
abbrev cXG_difference : ByteArray := prog_1_method_13_code
def yXG_difference : MethodName := ⟨RXG, "difference", "(III)I"⟩
abbrev cXG_write : ByteArray := prog_1_method_14_code
def yXG_write : MethodName := ⟨RXG, "write", "(I)I"⟩
abbrev cXP_start : ByteArray := prog_3_method_2_code
def yXP_start : MethodName := ⟨RXP, "start", "()V"⟩
abbrev cXB_printRow : ByteArray := prog_2_method_24_code
def yXB_printRow : MethodName := ⟨RXB, "printRow", "(ILGradeTexts$Page;)V"⟩
abbrev cXP_put : ByteArray := prog_3_method_5_code
def yXP_put : MethodName := ⟨RXP, "put", "(I)V"⟩
abbrev cXP_putNumber : ByteArray := prog_3_method_6_code
def yXP_putNumber : MethodName := ⟨RXP, "putNumber", "(I)V"⟩
abbrev cXB_printSpans : ByteArray := prog_2_method_25_code
def yXB_printSpans : MethodName := ⟨RXB, "printSpans", "(ILGradeTexts$Page;)V"⟩
abbrev cXB_printRoutes : ByteArray := prog_2_method_26_code
def yXB_printRoutes : MethodName := ⟨RXB, "printRoutes", "(ILGradeTexts$Page;)V"⟩
abbrev cXB_printLimits : ByteArray := prog_2_method_27_code
def yXB_printLimits : MethodName := ⟨RXB, "printLimits", "(ILGradeTexts$Page;)V"⟩
abbrev cXP_length : ByteArray := prog_3_method_3_code
def yXP_length : MethodName := ⟨RXP, "length", "()I"⟩
abbrev cXG_at : ByteArray := prog_1_method_15_code
def yXG_at : MethodName := ⟨RXG, "at", "(I)I"⟩
abbrev cXP_byteAt : ByteArray := prog_3_method_4_code
def yXP_byteAt : MethodName := ⟨RXP, "byteAt", "(I)I"⟩
theorem tw_1 : Cond.initialized RXG ∈ TBL := tm 1 (by decide +kernel) rfl
theorem tw_2 : Cond.initialized RXT ∈ TBL := tm 2 (by decide +kernel) rfl
theorem tw_3 : Cond.initialized RXR ∈ TBL := tm 3 (by decide +kernel) rfl
theorem tw_4 : Cond.initialized RXP ∈ TBL := tm 4 (by decide +kernel) rfl
theorem tw_5 : Cond.initialized RXB ∈ TBL := tm 5 (by decide +kernel) rfl
theorem tw_12 : Cond.initialized RXA ∈ TBL := tm 12 (by decide +kernel) rfl
theorem tw_13 : Cond.initialized RXI ∈ TBL := tm 13 (by decide +kernel) rfl
theorem tw_17 : Cond.instantiable RXG 7 ∈ TBL := tm 17 (by decide +kernel) rfl
theorem tw_19 : Cond.instanceMethod yXG_init ∈ TBL := tm 19 (by decide +kernel) rfl
theorem tw_20 : Cond.code yXG_init cXG_init 1 (none) ∈ TBL := tm 20 (by decide +kernel) rfl
theorem tw_21 : Cond.methodLink RXG 1 yXO_init ∈ TBL := tm 21 (by decide +kernel) rfl
theorem tw_22 : Cond.instanceMethod yXO_init ∈ TBL := tm 22 (by decide +kernel) rfl
theorem tw_23 : Cond.code yXO_init cXO_init 1 (none) ∈ TBL := tm 23 (by decide +kernel) rfl
theorem tw_24 : Cond.classLink RXG 7 RXT ∈ TBL := tm 24 (by decide +kernel) rfl
theorem tw_25 : Cond.instantiable RXT 4 ∈ TBL := tm 25 (by decide +kernel) rfl
theorem tw_27 : Cond.instanceMethod yXT_init ∈ TBL := tm 27 (by decide +kernel) rfl
theorem tw_28 : Cond.code yXT_init cXT_init 1 (none) ∈ TBL := tm 28 (by decide +kernel) rfl
theorem tw_29 : Cond.methodLink RXT 3 yXO_init ∈ TBL := tm 29 (by decide +kernel) rfl
theorem tw_30 : Cond.fieldLink RXT 9 "GradeTexts$Tape" "signs" "[I" ∈ TBL := tm 30 (by decide +kernel) rfl
theorem tw_31 : Cond.fieldLink RXT 15 "GradeTexts$Tape" "length" "I" ∈ TBL := tm 31 (by decide +kernel) rfl
theorem tw_32 : Cond.fieldLink RXT 19 "GradeTexts$Tape" "place" "I" ∈ TBL := tm 32 (by decide +kernel) rfl
theorem tw_33 : Cond.fieldLink RXT 22 "GradeTexts$Tape" "wrong" "I" ∈ TBL := tm 33 (by decide +kernel) rfl
theorem tw_43 : Cond.arrayClass .int ∈ TBL := tm 43 (by decide +kernel) rfl
theorem tw_44 : Cond.classLink RXG 16 RXR ∈ TBL := tm 44 (by decide +kernel) rfl
theorem tw_45 : Cond.instantiable RXR 1 ∈ TBL := tm 45 (by decide +kernel) rfl
theorem tw_46 : Cond.methodLink RXG 18 yXR_init ∈ TBL := tm 46 (by decide +kernel) rfl
theorem tw_47 : Cond.instanceMethod yXR_init ∈ TBL := tm 47 (by decide +kernel) rfl
theorem tw_48 : Cond.code yXR_init cXR_init 2 (none) ∈ TBL := tm 48 (by decide +kernel) rfl
theorem tw_49 : Cond.methodLink RXR 3 yXO_init ∈ TBL := tm 49 (by decide +kernel) rfl
theorem tw_50 : Cond.fieldLink RXR 9 "GradeTexts$Reader" "tape" "LGradeTexts$Tape;" ∈ TBL := tm 50 (by decide +kernel) rfl
theorem tw_54 : Cond.classLink RXG 25 RXP ∈ TBL := tm 54 (by decide +kernel) rfl
theorem tw_55 : Cond.instantiable RXP 2 ∈ TBL := tm 55 (by decide +kernel) rfl
theorem tw_57 : Cond.instanceMethod yXP_init ∈ TBL := tm 57 (by decide +kernel) rfl
theorem tw_58 : Cond.code yXP_init cXP_init 1 (none) ∈ TBL := tm 58 (by decide +kernel) rfl
theorem tw_59 : Cond.methodLink RXP 3 yXO_init ∈ TBL := tm 59 (by decide +kernel) rfl
theorem tw_60 : Cond.fieldLink RXP 9 "GradeTexts$Page" "signs" "[I" ∈ TBL := tm 60 (by decide +kernel) rfl
theorem tw_61 : Cond.fieldLink RXP 15 "GradeTexts$Page" "length" "I" ∈ TBL := tm 61 (by decide +kernel) rfl
theorem tw_67 : Cond.classLink RXG 39 RXB ∈ TBL := tm 67 (by decide +kernel) rfl
theorem tw_68 : Cond.instantiable RXB 9 ∈ TBL := tm 68 (by decide +kernel) rfl
theorem tw_70 : Cond.instanceMethod yXB_init ∈ TBL := tm 70 (by decide +kernel) rfl
theorem tw_71 : Cond.code yXB_init cXB_init 1 (none) ∈ TBL := tm 71 (by decide +kernel) rfl
theorem tw_72 : Cond.methodLink RXB 3 yXO_init ∈ TBL := tm 72 (by decide +kernel) rfl
theorem tw_73 : Cond.fieldLink RXB 9 "GradeTexts$Book" "toldParents" "[I" ∈ TBL := tm 73 (by decide +kernel) rfl
theorem tw_74 : Cond.fieldLink RXB 15 "GradeTexts$Book" "parents" "[I" ∈ TBL := tm 74 (by decide +kernel) rfl
theorem tw_75 : Cond.fieldLink RXB 18 "GradeTexts$Book" "lows" "[I" ∈ TBL := tm 75 (by decide +kernel) rfl
theorem tw_76 : Cond.fieldLink RXB 21 "GradeTexts$Book" "highs" "[I" ∈ TBL := tm 76 (by decide +kernel) rfl
theorem tw_77 : Cond.fieldLink RXB 24 "GradeTexts$Book" "limits" "[I" ∈ TBL := tm 77 (by decide +kernel) rfl
theorem tw_78 : Cond.fieldLink RXB 27 "GradeTexts$Book" "routes" "[I" ∈ TBL := tm 78 (by decide +kernel) rfl
theorem tw_79 : Cond.fieldLink RXB 30 "GradeTexts$Book" "divisors" "[I" ∈ TBL := tm 79 (by decide +kernel) rfl
theorem tw_80 : Cond.fieldLink RXB 33 "GradeTexts$Book" "grades" "I" ∈ TBL := tm 80 (by decide +kernel) rfl
theorem tw_81 : Cond.fieldLink RXB 37 "GradeTexts$Book" "formulas" "I" ∈ TBL := tm 81 (by decide +kernel) rfl
theorem tw_101 : Cond.fieldLink RXG 10 "GradeTexts" "tape" "LGradeTexts$Tape;" ∈ TBL := tm 101 (by decide +kernel) rfl
theorem tw_102 : Cond.fieldLink RXG 21 "GradeTexts" "reader" "LGradeTexts$Reader;" ∈ TBL := tm 102 (by decide +kernel) rfl
theorem tw_103 : Cond.fieldLink RXG 28 "GradeTexts" "page" "LGradeTexts$Page;" ∈ TBL := tm 103 (by decide +kernel) rfl
theorem tw_104 : Cond.fieldLink RXG 32 "GradeTexts" "shares" "[I" ∈ TBL := tm 104 (by decide +kernel) rfl
theorem tw_105 : Cond.fieldLink RXG 36 "GradeTexts" "ends" "[I" ∈ TBL := tm 105 (by decide +kernel) rfl
theorem tw_106 : Cond.fieldLink RXG 42 "GradeTexts" "book" "LGradeTexts$Book;" ∈ TBL := tm 106 (by decide +kernel) rfl
theorem tw_107 : Cond.fieldLink RXG 46 "GradeTexts" "spare" "LGradeTexts$Book;" ∈ TBL := tm 107 (by decide +kernel) rfl
theorem tw_124 : Cond.instanceMethod yXG_read ∈ TBL := tm 124 (by decide +kernel) rfl
theorem tw_125 : Cond.selects RXG yXG_read yXG_read ∈ TBL := tm 125 (by decide +kernel) rfl
theorem tw_126 : Cond.code yXG_read cXG_read 3 (some .int) ∈ TBL := tm 126 (by decide +kernel) rfl
theorem tw_127 : Cond.methodLink RXG 69 yXB_forget ∈ TBL := tm 127 (by decide +kernel) rfl
theorem tw_128 : Cond.instanceMethod yXB_forget ∈ TBL := tm 128 (by decide +kernel) rfl
theorem tw_129 : Cond.selects RXB yXB_forget yXB_forget ∈ TBL := tm 129 (by decide +kernel) rfl
theorem tw_130 : Cond.code yXB_forget cXB_forget 1 (none) ∈ TBL := tm 130 (by decide +kernel) rfl
theorem tw_131 : Cond.methodLink RXB 40 yXA_fill ∈ TBL := tm 131 (by decide +kernel) rfl
theorem tw_132 : Cond.static yXA_fill ∈ TBL := tm 132 (by decide +kernel) rfl
theorem tw_133 : Cond.code yXA_fill cXA_fill 4 (none) ∈ TBL := tm 133 (by decide +kernel) rfl
theorem tw_134 : Cond.methodLink RXG 72 yXR_text ∈ TBL := tm 134 (by decide +kernel) rfl
theorem tw_135 : Cond.instanceMethod yXR_text ∈ TBL := tm 135 (by decide +kernel) rfl
theorem tw_136 : Cond.selects RXR yXR_text yXR_text ∈ TBL := tm 136 (by decide +kernel) rfl
theorem tw_137 : Cond.code yXR_text cXR_text 3 (some .boolean) ∈ TBL := tm 137 (by decide +kernel) rfl
theorem tw_138 : Cond.methodLink RXR 15 yXT_rewind ∈ TBL := tm 138 (by decide +kernel) rfl
theorem tw_139 : Cond.instanceMethod yXT_rewind ∈ TBL := tm 139 (by decide +kernel) rfl
theorem tw_140 : Cond.selects RXT yXT_rewind yXT_rewind ∈ TBL := tm 140 (by decide +kernel) rfl
theorem tw_141 : Cond.code yXT_rewind cXT_rewind 1 (none) ∈ TBL := tm 141 (by decide +kernel) rfl
theorem tw_142 : Cond.methodLink RXR 20 yXT_next ∈ TBL := tm 142 (by decide +kernel) rfl
theorem tw_143 : Cond.instanceMethod yXT_next ∈ TBL := tm 143 (by decide +kernel) rfl
theorem tw_144 : Cond.selects RXT yXT_next yXT_next ∈ TBL := tm 144 (by decide +kernel) rfl
theorem tw_145 : Cond.code yXT_next cXT_next 1 (some .int) ∈ TBL := tm 145 (by decide +kernel) rfl
theorem tw_146 : Cond.methodLink RXR 24 yXR_row ∈ TBL := tm 146 (by decide +kernel) rfl
theorem tw_148 : Cond.instanceMethod yXR_row ∈ TBL := tm 148 (by decide +kernel) rfl
theorem tw_149 : Cond.code yXR_row cXR_row 2 (some .boolean) ∈ TBL := tm 149 (by decide +kernel) rfl
theorem tw_150 : Cond.methodLink RXR 28 yXT_skipIf ∈ TBL := tm 150 (by decide +kernel) rfl
theorem tw_151 : Cond.instanceMethod yXT_skipIf ∈ TBL := tm 151 (by decide +kernel) rfl
theorem tw_152 : Cond.selects RXT yXT_skipIf yXT_skipIf ∈ TBL := tm 152 (by decide +kernel) rfl
theorem tw_153 : Cond.code yXT_skipIf cXT_skipIf 2 (some .boolean) ∈ TBL := tm 153 (by decide +kernel) rfl
theorem tw_154 : Cond.methodLink RXT 27 yXT_next ∈ TBL := tm 154 (by decide +kernel) rfl
theorem tw_155 : Cond.methodLink RXR 32 yXR_formula ∈ TBL := tm 155 (by decide +kernel) rfl
theorem tw_157 : Cond.instanceMethod yXR_formula ∈ TBL := tm 157 (by decide +kernel) rfl
theorem tw_158 : Cond.code yXR_formula cXR_formula 3 (some .boolean) ∈ TBL := tm 158 (by decide +kernel) rfl
theorem tw_159 : Cond.methodLink RXR 45 yXT_takeOneOf ∈ TBL := tm 159 (by decide +kernel) rfl
theorem tw_160 : Cond.instanceMethod yXT_takeOneOf ∈ TBL := tm 160 (by decide +kernel) rfl
theorem tw_161 : Cond.selects RXT yXT_takeOneOf yXT_takeOneOf ∈ TBL := tm 161 (by decide +kernel) rfl
theorem tw_162 : Cond.code yXT_takeOneOf cXT_takeOneOf 4 (some .int) ∈ TBL := tm 162 (by decide +kernel) rfl
theorem tw_163 : Cond.methodLink RXT 31 yXT_refuse ∈ TBL := tm 163 (by decide +kernel) rfl
theorem tw_164 : Cond.instanceMethod yXT_refuse ∈ TBL := tm 164 (by decide +kernel) rfl
theorem tw_165 : Cond.selects RXT yXT_refuse yXT_refuse ∈ TBL := tm 165 (by decide +kernel) rfl
theorem tw_166 : Cond.code yXT_refuse cXT_refuse 1 (some .boolean) ∈ TBL := tm 166 (by decide +kernel) rfl
theorem tw_167 : Cond.methodLink RXR 49 yXB_hasFormula ∈ TBL := tm 167 (by decide +kernel) rfl
theorem tw_168 : Cond.instanceMethod yXB_hasFormula ∈ TBL := tm 168 (by decide +kernel) rfl
theorem tw_169 : Cond.selects RXB yXB_hasFormula yXB_hasFormula ∈ TBL := tm 169 (by decide +kernel) rfl
theorem tw_170 : Cond.code yXB_hasFormula cXB_hasFormula 2 (some .boolean) ∈ TBL := tm 170 (by decide +kernel) rfl
theorem tw_172 : Cond.static yXG_hasBit ∈ TBL := tm 172 (by decide +kernel) rfl
theorem tw_173 : Cond.code yXG_hasBit cXG_hasBit 2 (some .boolean) ∈ TBL := tm 173 (by decide +kernel) rfl
theorem tw_174 : Cond.methodLink RXR 54 yXT_refuseLast ∈ TBL := tm 174 (by decide +kernel) rfl
theorem tw_175 : Cond.instanceMethod yXT_refuseLast ∈ TBL := tm 175 (by decide +kernel) rfl
theorem tw_176 : Cond.selects RXT yXT_refuseLast yXT_refuseLast ∈ TBL := tm 176 (by decide +kernel) rfl
theorem tw_177 : Cond.code yXT_refuseLast cXT_refuseLast 1 (some .boolean) ∈ TBL := tm 177 (by decide +kernel) rfl
theorem tw_178 : Cond.methodLink RXR 57 yXB_tellFormula ∈ TBL := tm 178 (by decide +kernel) rfl
theorem tw_179 : Cond.instanceMethod yXB_tellFormula ∈ TBL := tm 179 (by decide +kernel) rfl
theorem tw_180 : Cond.selects RXB yXB_tellFormula yXB_tellFormula ∈ TBL := tm 180 (by decide +kernel) rfl
theorem tw_181 : Cond.code yXB_tellFormula cXB_tellFormula 2 (none) ∈ TBL := tm 181 (by decide +kernel) rfl
theorem tw_182 : Cond.methodLink RXR 35 yXT_take ∈ TBL := tm 182 (by decide +kernel) rfl
theorem tw_183 : Cond.instanceMethod yXT_take ∈ TBL := tm 183 (by decide +kernel) rfl
theorem tw_184 : Cond.selects RXT yXT_take yXT_take ∈ TBL := tm 184 (by decide +kernel) rfl
theorem tw_185 : Cond.code yXT_take cXT_take 2 (some .boolean) ∈ TBL := tm 185 (by decide +kernel) rfl
theorem tw_186 : Cond.methodLink RXR 61 yXR_terms ∈ TBL := tm 186 (by decide +kernel) rfl
theorem tw_188 : Cond.instanceMethod yXR_terms ∈ TBL := tm 188 (by decide +kernel) rfl
theorem tw_189 : Cond.code yXR_terms cXR_terms 6 (some .boolean) ∈ TBL := tm 189 (by decide +kernel) rfl
theorem tw_190 : Cond.methodLink RXR 65 yXB_divisorOf ∈ TBL := tm 190 (by decide +kernel) rfl
theorem tw_191 : Cond.instanceMethod yXB_divisorOf ∈ TBL := tm 191 (by decide +kernel) rfl
theorem tw_192 : Cond.selects RXB yXB_divisorOf yXB_divisorOf ∈ TBL := tm 192 (by decide +kernel) rfl
theorem tw_193 : Cond.code yXB_divisorOf cXB_divisorOf 3 (some .int) ∈ TBL := tm 193 (by decide +kernel) rfl
theorem tw_194 : Cond.methodLink RXR 68 yXT_number ∈ TBL := tm 194 (by decide +kernel) rfl
theorem tw_195 : Cond.instanceMethod yXT_number ∈ TBL := tm 195 (by decide +kernel) rfl
theorem tw_196 : Cond.selects RXT yXT_number yXT_number ∈ TBL := tm 196 (by decide +kernel) rfl
theorem tw_197 : Cond.code yXT_number cXT_number 5 (some .int) ∈ TBL := tm 197 (by decide +kernel) rfl
theorem tw_199 : Cond.static yXG_isDigit ∈ TBL := tm 199 (by decide +kernel) rfl
theorem tw_200 : Cond.code yXG_isDigit cXG_isDigit 1 (some .boolean) ∈ TBL := tm 200 (by decide +kernel) rfl
theorem tw_201 : Cond.methodLink RXT 39 yXT_here ∈ TBL := tm 201 (by decide +kernel) rfl
theorem tw_202 : Cond.instanceMethod yXT_here ∈ TBL := tm 202 (by decide +kernel) rfl
theorem tw_203 : Cond.selects RXT yXT_here yXT_here ∈ TBL := tm 203 (by decide +kernel) rfl
theorem tw_204 : Cond.code yXT_here cXT_here 1 (some .int) ∈ TBL := tm 204 (by decide +kernel) rfl
theorem tw_205 : Cond.methodLink RXT 42 yXT_refuseLast ∈ TBL := tm 205 (by decide +kernel) rfl
theorem tw_206 : Cond.methodLink RXR 71 yXB_tellTerm ∈ TBL := tm 206 (by decide +kernel) rfl
theorem tw_207 : Cond.instanceMethod yXB_tellTerm ∈ TBL := tm 207 (by decide +kernel) rfl
theorem tw_208 : Cond.selects RXB yXB_tellTerm yXB_tellTerm ∈ TBL := tm 208 (by decide +kernel) rfl
theorem tw_209 : Cond.code yXB_tellTerm cXB_tellTerm 4 (none) ∈ TBL := tm 209 (by decide +kernel) rfl
theorem tw_210 : Cond.methodLink RXR 41 yXT_refuse ∈ TBL := tm 210 (by decide +kernel) rfl
theorem tw_211 : Cond.methodLink RXR 38 yXR_grade ∈ TBL := tm 211 (by decide +kernel) rfl
theorem tw_213 : Cond.instanceMethod yXR_grade ∈ TBL := tm 213 (by decide +kernel) rfl
theorem tw_214 : Cond.code yXR_grade cXR_grade 3 (some .boolean) ∈ TBL := tm 214 (by decide +kernel) rfl
theorem tw_215 : Cond.methodLink RXR 75 yXB_knows ∈ TBL := tm 215 (by decide +kernel) rfl
theorem tw_216 : Cond.instanceMethod yXB_knows ∈ TBL := tm 216 (by decide +kernel) rfl
theorem tw_217 : Cond.selects RXB yXB_knows yXB_knows ∈ TBL := tm 217 (by decide +kernel) rfl
theorem tw_218 : Cond.code yXB_knows cXB_knows 2 (some .boolean) ∈ TBL := tm 218 (by decide +kernel) rfl
theorem tw_219 : Cond.methodLink RXR 78 yXB_tellGrade ∈ TBL := tm 219 (by decide +kernel) rfl
theorem tw_220 : Cond.instanceMethod yXB_tellGrade ∈ TBL := tm 220 (by decide +kernel) rfl
theorem tw_221 : Cond.selects RXB yXB_tellGrade yXB_tellGrade ∈ TBL := tm 221 (by decide +kernel) rfl
theorem tw_222 : Cond.code yXB_tellGrade cXB_tellGrade 2 (none) ∈ TBL := tm 222 (by decide +kernel) rfl
theorem tw_223 : Cond.methodLink RXR 81 yXR_parent ∈ TBL := tm 223 (by decide +kernel) rfl
theorem tw_225 : Cond.instanceMethod yXR_parent ∈ TBL := tm 225 (by decide +kernel) rfl
theorem tw_226 : Cond.code yXR_parent cXR_parent 4 (some .boolean) ∈ TBL := tm 226 (by decide +kernel) rfl
theorem tw_227 : Cond.methodLink RXR 93 yXB_tellParent ∈ TBL := tm 227 (by decide +kernel) rfl
theorem tw_228 : Cond.instanceMethod yXB_tellParent ∈ TBL := tm 228 (by decide +kernel) rfl
theorem tw_229 : Cond.selects RXB yXB_tellParent yXB_tellParent ∈ TBL := tm 229 (by decide +kernel) rfl
theorem tw_230 : Cond.code yXB_tellParent cXB_tellParent 3 (none) ∈ TBL := tm 230 (by decide +kernel) rfl
theorem tw_231 : Cond.methodLink RXR 84 yXR_spans ∈ TBL := tm 231 (by decide +kernel) rfl
theorem tw_233 : Cond.instanceMethod yXR_spans ∈ TBL := tm 233 (by decide +kernel) rfl
theorem tw_234 : Cond.code yXR_spans cXR_spans 7 (some .boolean) ∈ TBL := tm 234 (by decide +kernel) rfl
theorem tw_236 : Cond.static yXG_isElement ∈ TBL := tm 236 (by decide +kernel) rfl
theorem tw_237 : Cond.code yXG_isElement cXG_isElement 1 (some .boolean) ∈ TBL := tm 237 (by decide +kernel) rfl
theorem tw_238 : Cond.methodLink RXR 100 yXB_tellsSpan ∈ TBL := tm 238 (by decide +kernel) rfl
theorem tw_239 : Cond.instanceMethod yXB_tellsSpan ∈ TBL := tm 239 (by decide +kernel) rfl
theorem tw_240 : Cond.selects RXB yXB_tellsSpan yXB_tellsSpan ∈ TBL := tm 240 (by decide +kernel) rfl
theorem tw_241 : Cond.code yXB_tellsSpan cXB_tellsSpan 3 (some .boolean) ∈ TBL := tm 241 (by decide +kernel) rfl
theorem tw_242 : Cond.constant RXR 104 100000 ∈ TBL := tm 242 (by decide +kernel) rfl
theorem tw_243 : Cond.methodLink RXR 105 yXB_tellSpan ∈ TBL := tm 243 (by decide +kernel) rfl
theorem tw_244 : Cond.instanceMethod yXB_tellSpan ∈ TBL := tm 244 (by decide +kernel) rfl
theorem tw_245 : Cond.selects RXB yXB_tellSpan yXB_tellSpan ∈ TBL := tm 245 (by decide +kernel) rfl
theorem tw_246 : Cond.code yXB_tellSpan cXB_tellSpan 5 (none) ∈ TBL := tm 246 (by decide +kernel) rfl
theorem tw_247 : Cond.methodLink RXR 87 yXR_routes ∈ TBL := tm 247 (by decide +kernel) rfl
theorem tw_249 : Cond.instanceMethod yXR_routes ∈ TBL := tm 249 (by decide +kernel) rfl
theorem tw_250 : Cond.code yXR_routes cXR_routes 6 (some .boolean) ∈ TBL := tm 250 (by decide +kernel) rfl
theorem tw_252 : Cond.methodLink RXR 112 yXB_tellRoute ∈ TBL := tm 252 (by decide +kernel) rfl
theorem tw_253 : Cond.instanceMethod yXB_tellRoute ∈ TBL := tm 253 (by decide +kernel) rfl
theorem tw_254 : Cond.selects RXB yXB_tellRoute yXB_tellRoute ∈ TBL := tm 254 (by decide +kernel) rfl
theorem tw_255 : Cond.code yXB_tellRoute cXB_tellRoute 3 (none) ∈ TBL := tm 255 (by decide +kernel) rfl
theorem tw_256 : Cond.methodLink RXR 90 yXR_limits ∈ TBL := tm 256 (by decide +kernel) rfl
theorem tw_258 : Cond.instanceMethod yXR_limits ∈ TBL := tm 258 (by decide +kernel) rfl
theorem tw_259 : Cond.code yXR_limits cXR_limits 6 (some .boolean) ∈ TBL := tm 259 (by decide +kernel) rfl
theorem tw_260 : Cond.methodLink RXR 115 yXB_tellsLimit ∈ TBL := tm 260 (by decide +kernel) rfl
theorem tw_261 : Cond.instanceMethod yXB_tellsLimit ∈ TBL := tm 261 (by decide +kernel) rfl
theorem tw_262 : Cond.selects RXB yXB_tellsLimit yXB_tellsLimit ∈ TBL := tm 262 (by decide +kernel) rfl
theorem tw_263 : Cond.code yXB_tellsLimit cXB_tellsLimit 3 (some .boolean) ∈ TBL := tm 263 (by decide +kernel) rfl
theorem tw_264 : Cond.constant RXR 118 999999 ∈ TBL := tm 264 (by decide +kernel) rfl
theorem tw_265 : Cond.methodLink RXR 119 yXB_tellLimit ∈ TBL := tm 265 (by decide +kernel) rfl
theorem tw_266 : Cond.instanceMethod yXB_tellLimit ∈ TBL := tm 266 (by decide +kernel) rfl
theorem tw_267 : Cond.selects RXB yXB_tellLimit yXB_tellLimit ∈ TBL := tm 267 (by decide +kernel) rfl
theorem tw_268 : Cond.code yXB_tellLimit cXB_tellLimit 4 (none) ∈ TBL := tm 268 (by decide +kernel) rfl
theorem tw_269 : Cond.methodLink RXG 76 yXT_empty ∈ TBL := tm 269 (by decide +kernel) rfl
theorem tw_270 : Cond.instanceMethod yXT_empty ∈ TBL := tm 270 (by decide +kernel) rfl
theorem tw_271 : Cond.selects RXT yXT_empty yXT_empty ∈ TBL := tm 271 (by decide +kernel) rfl
theorem tw_272 : Cond.code yXT_empty cXT_empty 1 (none) ∈ TBL := tm 272 (by decide +kernel) rfl
theorem tw_273 : Cond.methodLink RXG 79 yXT_wrongPlace ∈ TBL := tm 273 (by decide +kernel) rfl
theorem tw_274 : Cond.instanceMethod yXT_wrongPlace ∈ TBL := tm 274 (by decide +kernel) rfl
theorem tw_275 : Cond.selects RXT yXT_wrongPlace yXT_wrongPlace ∈ TBL := tm 275 (by decide +kernel) rfl
theorem tw_276 : Cond.code yXT_wrongPlace cXT_wrongPlace 1 (some .int) ∈ TBL := tm 276 (by decide +kernel) rfl
theorem tw_277 : Cond.methodLink RXG 83 yXB_settle ∈ TBL := tm 277 (by decide +kernel) rfl
theorem tw_278 : Cond.instanceMethod yXB_settle ∈ TBL := tm 278 (by decide +kernel) rfl
theorem tw_279 : Cond.selects RXB yXB_settle yXB_settle ∈ TBL := tm 279 (by decide +kernel) rfl
theorem tw_280 : Cond.code yXB_settle cXB_settle 3 (none) ∈ TBL := tm 280 (by decide +kernel) rfl
theorem tw_281 : Cond.methodLink RXB 56 yXB_knows ∈ TBL := tm 281 (by decide +kernel) rfl
theorem tw_282 : Cond.methodLink RXB 60 yXB_onRing ∈ TBL := tm 282 (by decide +kernel) rfl
theorem tw_283 : Cond.instanceMethod yXB_onRing ∈ TBL := tm 283 (by decide +kernel) rfl
theorem tw_284 : Cond.selects RXB yXB_onRing yXB_onRing ∈ TBL := tm 284 (by decide +kernel) rfl
theorem tw_285 : Cond.code yXB_onRing cXB_onRing 4 (some .boolean) ∈ TBL := tm 285 (by decide +kernel) rfl
theorem tw_286 : Cond.methodLink RXG 86 yXB_count ∈ TBL := tm 286 (by decide +kernel) rfl
theorem tw_287 : Cond.instanceMethod yXB_count ∈ TBL := tm 287 (by decide +kernel) rfl
theorem tw_288 : Cond.selects RXB yXB_count yXB_count ∈ TBL := tm 288 (by decide +kernel) rfl
theorem tw_289 : Cond.code yXB_count cXB_count 1 (some .int) ∈ TBL := tm 289 (by decide +kernel) rfl
theorem tw_290 : Cond.methodLink RXB 46 yXI_bitCount ∈ TBL := tm 290 (by decide +kernel) rfl
theorem tw_291 : Cond.static yXI_bitCount ∈ TBL := tm 291 (by decide +kernel) rfl
theorem tw_292 : Cond.code yXI_bitCount cXI_bitCount 1 (some .int) ∈ TBL := tm 292 (by decide +kernel) rfl
theorem tw_293 : Cond.constant RXI 265 1431655765 ∈ TBL := tm 293 (by decide +kernel) rfl
theorem tw_294 : Cond.constant RXI 266 858993459 ∈ TBL := tm 294 (by decide +kernel) rfl
theorem tw_295 : Cond.constant RXI 267 252645135 ∈ TBL := tm 295 (by decide +kernel) rfl
theorem tw_297 : Cond.instanceMethod yXG_clear ∈ TBL := tm 297 (by decide +kernel) rfl
theorem tw_298 : Cond.selects RXG yXG_clear yXG_clear ∈ TBL := tm 298 (by decide +kernel) rfl
theorem tw_299 : Cond.code yXG_clear cXG_clear 1 (none) ∈ TBL := tm 299 (by decide +kernel) rfl
theorem tw_300 : Cond.methodLink RXG 154 yXA_fill ∈ TBL := tm 300 (by decide +kernel) rfl
theorem tw_307 : Cond.instanceMethod yXG_sign ∈ TBL := tm 307 (by decide +kernel) rfl
theorem tw_308 : Cond.selects RXG yXG_sign yXG_sign ∈ TBL := tm 308 (by decide +kernel) rfl
theorem tw_309 : Cond.code yXG_sign cXG_sign 4 (some .int) ∈ TBL := tm 309 (by decide +kernel) rfl
theorem tw_378 : Cond.arrayClass .byte ∈ TBL := tm 378 (by decide +kernel) rfl
theorem tw_379 : Cond.methodLink RXG 56 yXT_hasRoom ∈ TBL := tm 379 (by decide +kernel) rfl
theorem tw_380 : Cond.instanceMethod yXT_hasRoom ∈ TBL := tm 380 (by decide +kernel) rfl
theorem tw_381 : Cond.selects RXT yXT_hasRoom yXT_hasRoom ∈ TBL := tm 381 (by decide +kernel) rfl
theorem tw_382 : Cond.code yXT_hasRoom cXT_hasRoom 2 (some .boolean) ∈ TBL := tm 382 (by decide +kernel) rfl
theorem tw_399 : Cond.methodLink RXG 65 yXT_append ∈ TBL := tm 399 (by decide +kernel) rfl
theorem tw_400 : Cond.instanceMethod yXT_append ∈ TBL := tm 400 (by decide +kernel) rfl
theorem tw_401 : Cond.selects RXT yXT_append yXT_append ∈ TBL := tm 401 (by decide +kernel) rfl
theorem tw_402 : Cond.code yXT_append cXT_append 5 (some .int) ∈ TBL := tm 402 (by decide +kernel) rfl
theorem tw_403 : Cond.constantLong RXT 25 255 ∈ TBL := tm 403 (by decide +kernel) rfl
theorem tw_409 : Cond.instanceMethod yXG_span ∈ TBL := tm 409 (by decide +kernel) rfl
theorem tw_410 : Cond.selects RXG yXG_span yXG_span ∈ TBL := tm 410 (by decide +kernel) rfl
theorem tw_411 : Cond.code yXG_span cXG_span 4 (some .int) ∈ TBL := tm 411 (by decide +kernel) rfl
theorem tw_412 : Cond.methodLink RXG 89 yXG_needGrade ∈ TBL := tm 412 (by decide +kernel) rfl
theorem tw_414 : Cond.instanceMethod yXG_needGrade ∈ TBL := tm 414 (by decide +kernel) rfl
theorem tw_415 : Cond.code yXG_needGrade cXG_needGrade 2 (none) ∈ TBL := tm 415 (by decide +kernel) rfl
theorem tw_416 : Cond.methodLink RXG 160 yXB_knows ∈ TBL := tm 416 (by decide +kernel) rfl
theorem tw_433 : Cond.methodLink RXG 93 yXG_needBelow ∈ TBL := tm 433 (by decide +kernel) rfl
theorem tw_434 : Cond.static yXG_needBelow ∈ TBL := tm 434 (by decide +kernel) rfl
theorem tw_435 : Cond.code yXG_needBelow cXG_needBelow 2 (none) ∈ TBL := tm 435 (by decide +kernel) rfl
theorem tw_437 : Cond.methodLink RXG 97 yXB_endOf ∈ TBL := tm 437 (by decide +kernel) rfl
theorem tw_438 : Cond.instanceMethod yXB_endOf ∈ TBL := tm 438 (by decide +kernel) rfl
theorem tw_439 : Cond.selects RXB yXB_endOf yXB_endOf ∈ TBL := tm 439 (by decide +kernel) rfl
theorem tw_440 : Cond.code yXB_endOf cXB_endOf 6 (some .int) ∈ TBL := tm 440 (by decide +kernel) rfl
theorem tw_441 : Cond.methodLink RXB 63 yXB_tellsSpan ∈ TBL := tm 441 (by decide +kernel) rfl
theorem tw_442 : Cond.constant RXB 66 100000 ∈ TBL := tm 442 (by decide +kernel) rfl
theorem tw_447 : Cond.instanceMethod yXG_limit ∈ TBL := tm 447 (by decide +kernel) rfl
theorem tw_448 : Cond.selects RXG yXG_limit yXG_limit ∈ TBL := tm 448 (by decide +kernel) rfl
theorem tw_449 : Cond.code yXG_limit cXG_limit 3 (some .int) ∈ TBL := tm 449 (by decide +kernel) rfl
theorem tw_450 : Cond.methodLink RXG 101 yXB_limitOf ∈ TBL := tm 450 (by decide +kernel) rfl
theorem tw_451 : Cond.instanceMethod yXB_limitOf ∈ TBL := tm 451 (by decide +kernel) rfl
theorem tw_452 : Cond.selects RXB yXB_limitOf yXB_limitOf ∈ TBL := tm 452 (by decide +kernel) rfl
theorem tw_453 : Cond.code yXB_limitOf cXB_limitOf 5 (some .int) ∈ TBL := tm 453 (by decide +kernel) rfl
theorem tw_454 : Cond.methodLink RXB 67 yXB_tellsLimit ∈ TBL := tm 454 (by decide +kernel) rfl
theorem tw_460 : Cond.instanceMethod yXG_equivalent ∈ TBL := tm 460 (by decide +kernel) rfl
theorem tw_461 : Cond.selects RXG yXG_equivalent yXG_equivalent ∈ TBL := tm 461 (by decide +kernel) rfl
theorem tw_462 : Cond.code yXG_equivalent cXG_equivalent 5 (some .long) ∈ TBL := tm 462 (by decide +kernel) rfl
theorem tw_463 : Cond.methodLink RXG 105 yXG_needFormula ∈ TBL := tm 463 (by decide +kernel) rfl
theorem tw_465 : Cond.instanceMethod yXG_needFormula ∈ TBL := tm 465 (by decide +kernel) rfl
theorem tw_466 : Cond.code yXG_needFormula cXG_needFormula 2 (none) ∈ TBL := tm 466 (by decide +kernel) rfl
theorem tw_467 : Cond.methodLink RXG 172 yXB_hasFormula ∈ TBL := tm 467 (by decide +kernel) rfl
theorem tw_484 : Cond.methodLink RXG 108 yXB_copyEnds ∈ TBL := tm 484 (by decide +kernel) rfl
theorem tw_485 : Cond.instanceMethod yXB_copyEnds ∈ TBL := tm 485 (by decide +kernel) rfl
theorem tw_486 : Cond.selects RXB yXB_copyEnds yXB_copyEnds ∈ TBL := tm 486 (by decide +kernel) rfl
theorem tw_487 : Cond.code yXB_copyEnds cXB_copyEnds 5 (none) ∈ TBL := tm 487 (by decide +kernel) rfl
theorem tw_488 : Cond.methodLink RXB 70 yXB_endOf ∈ TBL := tm 488 (by decide +kernel) rfl
theorem tw_489 : Cond.methodLink RXG 112 yXB_scaledSum ∈ TBL := tm 489 (by decide +kernel) rfl
theorem tw_490 : Cond.instanceMethod yXB_scaledSum ∈ TBL := tm 490 (by decide +kernel) rfl
theorem tw_491 : Cond.selects RXB yXB_scaledSum yXB_scaledSum ∈ TBL := tm 491 (by decide +kernel) rfl
theorem tw_492 : Cond.code yXB_scaledSum cXB_scaledSum 7 (some .long) ∈ TBL := tm 492 (by decide +kernel) rfl
theorem tw_493 : Cond.methodLink RXB 74 yXB_divisorOf ∈ TBL := tm 493 (by decide +kernel) rfl
theorem tw_494 : Cond.constantLong RXB 78 232792560 ∈ TBL := tm 494 (by decide +kernel) rfl
theorem tw_495 : Cond.methodLink RXG 116 yXG_inLowestTerms ∈ TBL := tm 495 (by decide +kernel) rfl
theorem tw_496 : Cond.static yXG_inLowestTerms ∈ TBL := tm 496 (by decide +kernel) rfl
theorem tw_497 : Cond.code yXG_inLowestTerms cXG_inLowestTerms 5 (some .long) ∈ TBL := tm 497 (by decide +kernel) rfl
theorem tw_498 : Cond.constantLong RXG 180 232792560 ∈ TBL := tm 498 (by decide +kernel) rfl
theorem tw_499 : Cond.methodLink RXG 182 yXG_greatestDivisor ∈ TBL := tm 499 (by decide +kernel) rfl
theorem tw_500 : Cond.static yXG_greatestDivisor ∈ TBL := tm 500 (by decide +kernel) rfl
theorem tw_501 : Cond.code yXG_greatestDivisor cXG_greatestDivisor 11 (some .long) ∈ TBL := tm 501 (by decide +kernel) rfl
theorem tw_506 : Cond.instanceMethod yXG_share ∈ TBL := tm 506 (by decide +kernel) rfl
theorem tw_507 : Cond.selects RXG yXG_share yXG_share ∈ TBL := tm 507 (by decide +kernel) rfl
theorem tw_508 : Cond.code yXG_share cXG_share 3 (none) ∈ TBL := tm 508 (by decide +kernel) rfl
theorem tw_509 : Cond.constant RXG 120 100000 ∈ TBL := tm 509 (by decide +kernel) rfl
theorem tw_515 : Cond.instanceMethod yXG_value ∈ TBL := tm 515 (by decide +kernel) rfl
theorem tw_516 : Cond.selects RXG yXG_value yXG_value ∈ TBL := tm 516 (by decide +kernel) rfl
theorem tw_517 : Cond.code yXG_value cXG_value 3 (some .long) ∈ TBL := tm 517 (by decide +kernel) rfl
theorem tw_522 : Cond.instanceMethod yXG_fits ∈ TBL := tm 522 (by decide +kernel) rfl
theorem tw_523 : Cond.selects RXG yXG_fits yXG_fits ∈ TBL := tm 523 (by decide +kernel) rfl
theorem tw_524 : Cond.code yXG_fits cXG_fits 4 (some .int) ∈ TBL := tm 524 (by decide +kernel) rfl
theorem tw_525 : Cond.methodLink RXG 123 yXB_firstKindAbove ∈ TBL := tm 525 (by decide +kernel) rfl
theorem tw_526 : Cond.instanceMethod yXB_firstKindAbove ∈ TBL := tm 526 (by decide +kernel) rfl
theorem tw_527 : Cond.selects RXB yXB_firstKindAbove yXB_firstKindAbove ∈ TBL := tm 527 (by decide +kernel) rfl
theorem tw_528 : Cond.code yXB_firstKindAbove cXB_firstKindAbove 5 (some .int) ∈ TBL := tm 528 (by decide +kernel) rfl
theorem tw_529 : Cond.methodLink RXB 80 yXB_limitOf ∈ TBL := tm 529 (by decide +kernel) rfl
theorem tw_530 : Cond.methodLink RXB 83 yXB_hasFormula ∈ TBL := tm 530 (by decide +kernel) rfl
theorem tw_531 : Cond.methodLink RXB 86 yXB_scaledSum ∈ TBL := tm 531 (by decide +kernel) rfl
theorem tw_536 : Cond.instanceMethod yXG_holds ∈ TBL := tm 536 (by decide +kernel) rfl
theorem tw_537 : Cond.selects RXG yXG_holds yXG_holds ∈ TBL := tm 537 (by decide +kernel) rfl
theorem tw_538 : Cond.code yXG_holds cXG_holds 4 (some .boolean) ∈ TBL := tm 538 (by decide +kernel) rfl
theorem tw_543 : Cond.instanceMethod yXG_ring ∈ TBL := tm 543 (by decide +kernel) rfl
theorem tw_544 : Cond.selects RXG yXG_ring yXG_ring ∈ TBL := tm 544 (by decide +kernel) rfl
theorem tw_545 : Cond.code yXG_ring cXG_ring 4 (some .int) ∈ TBL := tm 545 (by decide +kernel) rfl
theorem tw_546 : Cond.methodLink RXG 127 yXG_needPlace ∈ TBL := tm 546 (by decide +kernel) rfl
theorem tw_547 : Cond.static yXG_needPlace ∈ TBL := tm 547 (by decide +kernel) rfl
theorem tw_548 : Cond.code yXG_needPlace cXG_needPlace 1 (none) ∈ TBL := tm 548 (by decide +kernel) rfl
theorem tw_550 : Cond.methodLink RXG 130 yXB_onRing ∈ TBL := tm 550 (by decide +kernel) rfl
theorem tw_555 : Cond.instanceMethod yXG_route ∈ TBL := tm 555 (by decide +kernel) rfl
theorem tw_556 : Cond.selects RXG yXG_route yXG_route ∈ TBL := tm 556 (by decide +kernel) rfl
theorem tw_557 : Cond.code yXG_route cXG_route 6 (some .int) ∈ TBL := tm 557 (by decide +kernel) rfl
theorem tw_558 : Cond.methodLink RXG 133 yXB_routesOf ∈ TBL := tm 558 (by decide +kernel) rfl
theorem tw_559 : Cond.instanceMethod yXB_routesOf ∈ TBL := tm 559 (by decide +kernel) rfl
theorem tw_560 : Cond.selects RXB yXB_routesOf yXB_routesOf ∈ TBL := tm 560 (by decide +kernel) rfl
theorem tw_561 : Cond.code yXB_routesOf cXB_routesOf 4 (some .int) ∈ TBL := tm 561 (by decide +kernel) rfl
theorem tw_562 : Cond.methodLink RXG 137 yXG_hasBit ∈ TBL := tm 562 (by decide +kernel) rfl
theorem tw_567 : Cond.instanceMethod yXG_difference ∈ TBL := tm 567 (by decide +kernel) rfl
theorem tw_568 : Cond.selects RXG yXG_difference yXG_difference ∈ TBL := tm 568 (by decide +kernel) rfl
theorem tw_569 : Cond.code yXG_difference cXG_difference 6 (some .int) ∈ TBL := tm 569 (by decide +kernel) rfl
theorem tw_574 : Cond.instanceMethod yXG_write ∈ TBL := tm 574 (by decide +kernel) rfl
theorem tw_575 : Cond.selects RXG yXG_write yXG_write ∈ TBL := tm 575 (by decide +kernel) rfl
theorem tw_576 : Cond.code yXG_write cXG_write 2 (some .int) ∈ TBL := tm 576 (by decide +kernel) rfl
theorem tw_577 : Cond.methodLink RXG 141 yXP_start ∈ TBL := tm 577 (by decide +kernel) rfl
theorem tw_578 : Cond.instanceMethod yXP_start ∈ TBL := tm 578 (by decide +kernel) rfl
theorem tw_579 : Cond.selects RXP yXP_start yXP_start ∈ TBL := tm 579 (by decide +kernel) rfl
theorem tw_580 : Cond.code yXP_start cXP_start 1 (none) ∈ TBL := tm 580 (by decide +kernel) rfl
theorem tw_581 : Cond.methodLink RXG 144 yXB_printRow ∈ TBL := tm 581 (by decide +kernel) rfl
theorem tw_582 : Cond.instanceMethod yXB_printRow ∈ TBL := tm 582 (by decide +kernel) rfl
theorem tw_583 : Cond.selects RXB yXB_printRow yXB_printRow ∈ TBL := tm 583 (by decide +kernel) rfl
theorem tw_584 : Cond.code yXB_printRow cXB_printRow 3 (none) ∈ TBL := tm 584 (by decide +kernel) rfl
theorem tw_585 : Cond.methodLink RXB 90 yXP_put ∈ TBL := tm 585 (by decide +kernel) rfl
theorem tw_586 : Cond.instanceMethod yXP_put ∈ TBL := tm 586 (by decide +kernel) rfl
theorem tw_587 : Cond.selects RXP yXP_put yXP_put ∈ TBL := tm 587 (by decide +kernel) rfl
theorem tw_588 : Cond.code yXP_put cXP_put 2 (none) ∈ TBL := tm 588 (by decide +kernel) rfl
theorem tw_589 : Cond.methodLink RXB 96 yXP_putNumber ∈ TBL := tm 589 (by decide +kernel) rfl
theorem tw_590 : Cond.instanceMethod yXP_putNumber ∈ TBL := tm 590 (by decide +kernel) rfl
theorem tw_591 : Cond.selects RXP yXP_putNumber yXP_putNumber ∈ TBL := tm 591 (by decide +kernel) rfl
theorem tw_592 : Cond.code yXP_putNumber cXP_putNumber 3 (none) ∈ TBL := tm 592 (by decide +kernel) rfl
theorem tw_593 : Cond.constant RXP 19 100000 ∈ TBL := tm 593 (by decide +kernel) rfl
theorem tw_594 : Cond.methodLink RXP 20 yXP_put ∈ TBL := tm 594 (by decide +kernel) rfl
theorem tw_595 : Cond.methodLink RXB 99 yXB_printSpans ∈ TBL := tm 595 (by decide +kernel) rfl
theorem tw_597 : Cond.instanceMethod yXB_printSpans ∈ TBL := tm 597 (by decide +kernel) rfl
theorem tw_598 : Cond.code yXB_printSpans cXB_printSpans 4 (none) ∈ TBL := tm 598 (by decide +kernel) rfl
theorem tw_599 : Cond.methodLink RXB 103 yXB_printRoutes ∈ TBL := tm 599 (by decide +kernel) rfl
theorem tw_601 : Cond.instanceMethod yXB_printRoutes ∈ TBL := tm 601 (by decide +kernel) rfl
theorem tw_602 : Cond.code yXB_printRoutes cXB_printRoutes 4 (none) ∈ TBL := tm 602 (by decide +kernel) rfl
theorem tw_603 : Cond.methodLink RXB 106 yXB_printLimits ∈ TBL := tm 603 (by decide +kernel) rfl
theorem tw_605 : Cond.instanceMethod yXB_printLimits ∈ TBL := tm 605 (by decide +kernel) rfl
theorem tw_606 : Cond.code yXB_printLimits cXB_printLimits 4 (none) ∈ TBL := tm 606 (by decide +kernel) rfl
theorem tw_607 : Cond.methodLink RXG 148 yXP_length ∈ TBL := tm 607 (by decide +kernel) rfl
theorem tw_608 : Cond.instanceMethod yXP_length ∈ TBL := tm 608 (by decide +kernel) rfl
theorem tw_609 : Cond.selects RXP yXP_length yXP_length ∈ TBL := tm 609 (by decide +kernel) rfl
theorem tw_610 : Cond.code yXP_length cXP_length 1 (some .int) ∈ TBL := tm 610 (by decide +kernel) rfl
theorem tw_615 : Cond.instanceMethod yXG_at ∈ TBL := tm 615 (by decide +kernel) rfl
theorem tw_616 : Cond.selects RXG yXG_at yXG_at ∈ TBL := tm 616 (by decide +kernel) rfl
theorem tw_617 : Cond.code yXG_at cXG_at 2 (some .int) ∈ TBL := tm 617 (by decide +kernel) rfl
theorem tw_618 : Cond.methodLink RXG 151 yXP_byteAt ∈ TBL := tm 618 (by decide +kernel) rfl
theorem tw_619 : Cond.instanceMethod yXP_byteAt ∈ TBL := tm 619 (by decide +kernel) rfl
theorem tw_620 : Cond.selects RXP yXP_byteAt yXP_byteAt ∈ TBL := tm 620 (by decide +kernel) rfl
theorem tw_621 : Cond.code yXP_byteAt cXP_byteAt 2 (some .int) ∈ TBL := tm 621 (by decide +kernel) rfl
theorem tw_686 : Cond.arrayClass .boolean ∈ TBL := tm 686 (by decide +kernel) rfl
theorem tw_867 : Cond.arrayClass .long ∈ TBL := tm 867 (by decide +kernel) rfl
theorem ts_0 : Cond.selects RXR yXR_row yXR_row ∈ TBL := tsel 0 (by decide +kernel) rfl
theorem ts_1 : Cond.selects RXR yXR_formula yXR_formula ∈ TBL := tsel 1 (by decide +kernel) rfl
theorem ts_2 : Cond.selects RXR yXR_terms yXR_terms ∈ TBL := tsel 2 (by decide +kernel) rfl
theorem ts_3 : Cond.selects RXR yXR_grade yXR_grade ∈ TBL := tsel 3 (by decide +kernel) rfl
theorem ts_4 : Cond.selects RXR yXR_parent yXR_parent ∈ TBL := tsel 4 (by decide +kernel) rfl
theorem ts_5 : Cond.selects RXR yXR_spans yXR_spans ∈ TBL := tsel 5 (by decide +kernel) rfl
theorem ts_6 : Cond.selects RXR yXR_routes yXR_routes ∈ TBL := tsel 6 (by decide +kernel) rfl
theorem ts_7 : Cond.selects RXR yXR_limits yXR_limits ∈ TBL := tsel 7 (by decide +kernel) rfl
theorem ts_9 : Cond.selects RXG yXG_needGrade yXG_needGrade ∈ TBL := tsel 9 (by decide +kernel) rfl
theorem ts_10 : Cond.selects RXG yXG_needFormula yXG_needFormula ∈ TBL := tsel 10 (by decide +kernel) rfl
theorem ts_11 : Cond.selects RXB yXB_printSpans yXB_printSpans ∈ TBL := tsel 11 (by decide +kernel) rfl
theorem ts_12 : Cond.selects RXB yXB_printRoutes yXB_printRoutes ∈ TBL := tsel 12 (by decide +kernel) rfl
theorem ts_13 : Cond.selects RXB yXB_printLimits yXB_printLimits ∈ TBL := tsel 13 (by decide +kernel) rfl
/-! the nest's words -/
def jN (U : State) : Prop := va_Nw (Cond.methodLinkNest RXG 9 yXT_init RXG) U ∧ va_Nw (Cond.methodLinkNest RXG 27 yXP_init RXG) U ∧ va_Nw (Cond.methodLinkNest RXG 41 yXB_init RXG) U ∧ va_Nw (Cond.methodLinkNest RXB 52 yXG_hasBit RXG) U ∧ va_Nw (Cond.methodLinkNest RXT 35 yXG_isDigit RXG) U ∧ va_Nw (Cond.methodLinkNest RXR 97 yXG_isElement RXG) U ∧ va_Nw (Cond.methodLinkNest RXR 109 yXG_isDigit RXG) U
theorem jN.same {u U : State} (h : u.vm = U.vm) (hN : jN u) : jN U := by
  obtain ⟨h0, h1, h2, h3, h4, h5, h6⟩ := hN
  exact ⟨va_Nw.same rfl h h0, va_Nw.same rfl h h1, va_Nw.same rfl h h2, va_Nw.same rfl h h3, va_Nw.same rfl h h4, va_Nw.same rfl h h5, va_Nw.same rfl h h6⟩
theorem jN.warm {s U : State} (h : s.WarmedH U.vm) (hN : jN s) : jN U := by
  obtain ⟨h0, h1, h2, h3, h4, h5, h6⟩ := hN
  exact ⟨va_Nw.warmM h h0, va_Nw.warmM h h1, va_Nw.warmM h h2, va_Nw.warmM h h3, va_Nw.warmM h h4, va_Nw.warmM h h5, va_Nw.warmM h h6⟩
theorem jN.n26 {U : State} (h : jN U) : va_Nw (Cond.methodLinkNest RXG 9 yXT_init RXG) U := h.1
theorem jN.n56 {U : State} (h : jN U) : va_Nw (Cond.methodLinkNest RXG 27 yXP_init RXG) U := h.2.1
theorem jN.n69 {U : State} (h : jN U) : va_Nw (Cond.methodLinkNest RXG 41 yXB_init RXG) U := h.2.2.1
theorem jN.n171 {U : State} (h : jN U) : va_Nw (Cond.methodLinkNest RXB 52 yXG_hasBit RXG) U := h.2.2.2.1
theorem jN.n198 {U : State} (h : jN U) : va_Nw (Cond.methodLinkNest RXT 35 yXG_isDigit RXG) U := h.2.2.2.2.1
theorem jN.n235 {U : State} (h : jN U) : va_Nw (Cond.methodLinkNest RXR 97 yXG_isElement RXG) U := h.2.2.2.2.2.1
theorem jN.n251 {U : State} (h : jN U) : va_Nw (Cond.methodLinkNest RXR 109 yXG_isDigit RXG) U := h.2.2.2.2.2.2
abbrev vwCl : List vw_C := [(RXB, TXB, 9), (RXP, TXP, 2), (RXR, TXR, 1), (RXT, TXT, 4), (RXG, TXG, 7)]
end
section
theorem dXG_init_0 : decode cXG_init 0 = .ok (.aload_n 0, 1) := by decide +kernel
theorem dXG_init_1 : decode cXG_init 1 = .ok (.invokespecial 1, 3) := by decide +kernel
theorem dXG_init_4 : decode cXG_init 4 = .ok (.aload_n 0, 1) := by decide +kernel
theorem dXG_init_5 : decode cXG_init 5 = .ok (.new 7, 3) := by decide +kernel
theorem dXG_init_8 : decode cXG_init 8 = .ok (.dup, 1) := by decide +kernel
theorem dXG_init_9 : decode cXG_init 9 = .ok (.invokespecial 9, 3) := by decide +kernel
theorem dXG_init_12 : decode cXG_init 12 = .ok (.putfield 10, 3) := by decide +kernel
theorem dXG_init_15 : decode cXG_init 15 = .ok (.aload_n 0, 1) := by decide +kernel
theorem dXG_init_16 : decode cXG_init 16 = .ok (.new 16, 3) := by decide +kernel
theorem dXG_init_19 : decode cXG_init 19 = .ok (.dup, 1) := by decide +kernel
theorem dXG_init_20 : decode cXG_init 20 = .ok (.aload_n 0, 1) := by decide +kernel
theorem dXG_init_21 : decode cXG_init 21 = .ok (.getfield 10, 3) := by decide +kernel
theorem dXG_init_24 : decode cXG_init 24 = .ok (.invokespecial 18, 3) := by decide +kernel
theorem dXG_init_27 : decode cXG_init 27 = .ok (.putfield 21, 3) := by decide +kernel
theorem dXG_init_30 : decode cXG_init 30 = .ok (.aload_n 0, 1) := by decide +kernel
theorem dXG_init_31 : decode cXG_init 31 = .ok (.new 25, 3) := by decide +kernel
theorem dXG_init_34 : decode cXG_init 34 = .ok (.dup, 1) := by decide +kernel
theorem dXG_init_35 : decode cXG_init 35 = .ok (.invokespecial 27, 3) := by decide +kernel
theorem dXG_init_38 : decode cXG_init 38 = .ok (.putfield 28, 3) := by decide +kernel
theorem dXG_init_41 : decode cXG_init 41 = .ok (.aload_n 0, 1) := by decide +kernel
theorem dXG_init_42 : decode cXG_init 42 = .ok (.bipush 8, 2) := by decide +kernel
theorem dXG_init_44 : decode cXG_init 44 = .ok (.newarray .int, 2) := by decide +kernel
theorem dXG_init_46 : decode cXG_init 46 = .ok (.putfield 32, 3) := by decide +kernel
theorem dXG_init_49 : decode cXG_init 49 = .ok (.aload_n 0, 1) := by decide +kernel
theorem dXG_init_50 : decode cXG_init 50 = .ok (.bipush 8, 2) := by decide +kernel
theorem dXG_init_52 : decode cXG_init 52 = .ok (.newarray .int, 2) := by decide +kernel
theorem dXG_init_54 : decode cXG_init 54 = .ok (.putfield 36, 3) := by decide +kernel
theorem dXG_init_57 : decode cXG_init 57 = .ok (.aload_n 0, 1) := by decide +kernel
theorem dXG_init_58 : decode cXG_init 58 = .ok (.new 39, 3) := by decide +kernel
theorem dXG_init_61 : decode cXG_init 61 = .ok (.dup, 1) := by decide +kernel
theorem dXG_init_62 : decode cXG_init 62 = .ok (.invokespecial 41, 3) := by decide +kernel
theorem dXG_init_65 : decode cXG_init 65 = .ok (.putfield 42, 3) := by decide +kernel
theorem dXG_init_68 : decode cXG_init 68 = .ok (.aload_n 0, 1) := by decide +kernel
theorem dXG_init_69 : decode cXG_init 69 = .ok (.new 39, 3) := by decide +kernel
theorem dXG_init_72 : decode cXG_init 72 = .ok (.dup, 1) := by decide +kernel
theorem dXG_init_73 : decode cXG_init 73 = .ok (.invokespecial 41, 3) := by decide +kernel
theorem dXG_init_76 : decode cXG_init 76 = .ok (.putfield 46, 3) := by decide +kernel
theorem dXG_init_79 : decode cXG_init 79 = .ok (.return_, 1) := by decide +kernel
theorem dXO_init_0 : decode cXO_init 0 = .ok (.return_, 1) := by decide +kernel
theorem dXT_init_0 : decode cXT_init 0 = .ok (.aload_n 0, 1) := by decide +kernel
theorem dXT_init_1 : decode cXT_init 1 = .ok (.invokespecial 3, 3) := by decide +kernel
theorem dXT_init_4 : decode cXT_init 4 = .ok (.aload_n 0, 1) := by decide +kernel
theorem dXT_init_5 : decode cXT_init 5 = .ok (.sipush 400, 3) := by decide +kernel
theorem dXT_init_8 : decode cXT_init 8 = .ok (.newarray .int, 2) := by decide +kernel
theorem dXT_init_10 : decode cXT_init 10 = .ok (.putfield 9, 3) := by decide +kernel
theorem dXT_init_13 : decode cXT_init 13 = .ok (.aload_n 0, 1) := by decide +kernel
theorem dXT_init_14 : decode cXT_init 14 = .ok (.iconst 0, 1) := by decide +kernel
theorem dXT_init_15 : decode cXT_init 15 = .ok (.putfield 15, 3) := by decide +kernel
theorem dXT_init_18 : decode cXT_init 18 = .ok (.aload_n 0, 1) := by decide +kernel
theorem dXT_init_19 : decode cXT_init 19 = .ok (.iconst 0, 1) := by decide +kernel
theorem dXT_init_20 : decode cXT_init 20 = .ok (.putfield 19, 3) := by decide +kernel
theorem dXT_init_23 : decode cXT_init 23 = .ok (.aload_n 0, 1) := by decide +kernel
theorem dXT_init_24 : decode cXT_init 24 = .ok (.iconst 0, 1) := by decide +kernel
theorem dXT_init_25 : decode cXT_init 25 = .ok (.putfield 22, 3) := by decide +kernel
theorem dXT_init_28 : decode cXT_init 28 = .ok (.return_, 1) := by decide +kernel
theorem dXR_init_0 : decode cXR_init 0 = .ok (.aload_n 0, 1) := by decide +kernel
theorem dXR_init_1 : decode cXR_init 1 = .ok (.invokespecial 3, 3) := by decide +kernel
theorem dXR_init_4 : decode cXR_init 4 = .ok (.aload_n 0, 1) := by decide +kernel
theorem dXR_init_5 : decode cXR_init 5 = .ok (.aload_n 1, 1) := by decide +kernel
theorem dXR_init_6 : decode cXR_init 6 = .ok (.putfield 9, 3) := by decide +kernel
theorem dXR_init_9 : decode cXR_init 9 = .ok (.return_, 1) := by decide +kernel
theorem dXP_init_0 : decode cXP_init 0 = .ok (.aload_n 0, 1) := by decide +kernel
theorem dXP_init_1 : decode cXP_init 1 = .ok (.invokespecial 3, 3) := by decide +kernel
theorem dXP_init_4 : decode cXP_init 4 = .ok (.aload_n 0, 1) := by decide +kernel
theorem dXP_init_5 : decode cXP_init 5 = .ok (.sipush 160, 3) := by decide +kernel
theorem dXP_init_8 : decode cXP_init 8 = .ok (.newarray .int, 2) := by decide +kernel
theorem dXP_init_10 : decode cXP_init 10 = .ok (.putfield 9, 3) := by decide +kernel
theorem dXP_init_13 : decode cXP_init 13 = .ok (.aload_n 0, 1) := by decide +kernel
theorem dXP_init_14 : decode cXP_init 14 = .ok (.iconst 0, 1) := by decide +kernel
theorem dXP_init_15 : decode cXP_init 15 = .ok (.putfield 15, 3) := by decide +kernel
theorem dXP_init_18 : decode cXP_init 18 = .ok (.return_, 1) := by decide +kernel
theorem dXB_init_0 : decode cXB_init 0 = .ok (.aload_n 0, 1) := by decide +kernel
theorem dXB_init_1 : decode cXB_init 1 = .ok (.invokespecial 3, 3) := by decide +kernel
theorem dXB_init_4 : decode cXB_init 4 = .ok (.aload_n 0, 1) := by decide +kernel
theorem dXB_init_5 : decode cXB_init 5 = .ok (.bipush 31, 2) := by decide +kernel
theorem dXB_init_7 : decode cXB_init 7 = .ok (.newarray .int, 2) := by decide +kernel
theorem dXB_init_9 : decode cXB_init 9 = .ok (.putfield 9, 3) := by decide +kernel
theorem dXB_init_12 : decode cXB_init 12 = .ok (.aload_n 0, 1) := by decide +kernel
theorem dXB_init_13 : decode cXB_init 13 = .ok (.bipush 31, 2) := by decide +kernel
theorem dXB_init_15 : decode cXB_init 15 = .ok (.newarray .int, 2) := by decide +kernel
theorem dXB_init_17 : decode cXB_init 17 = .ok (.putfield 15, 3) := by decide +kernel
theorem dXB_init_20 : decode cXB_init 20 = .ok (.aload_n 0, 1) := by decide +kernel
theorem dXB_init_21 : decode cXB_init 21 = .ok (.sipush 248, 3) := by decide +kernel
theorem dXB_init_24 : decode cXB_init 24 = .ok (.newarray .int, 2) := by decide +kernel
theorem dXB_init_26 : decode cXB_init 26 = .ok (.putfield 18, 3) := by decide +kernel
theorem dXB_init_29 : decode cXB_init 29 = .ok (.aload_n 0, 1) := by decide +kernel
theorem dXB_init_30 : decode cXB_init 30 = .ok (.sipush 248, 3) := by decide +kernel
theorem dXB_init_33 : decode cXB_init 33 = .ok (.newarray .int, 2) := by decide +kernel
theorem dXB_init_35 : decode cXB_init 35 = .ok (.putfield 21, 3) := by decide +kernel
theorem dXB_init_38 : decode cXB_init 38 = .ok (.aload_n 0, 1) := by decide +kernel
theorem dXB_init_39 : decode cXB_init 39 = .ok (.bipush 124, 2) := by decide +kernel
theorem dXB_init_41 : decode cXB_init 41 = .ok (.newarray .int, 2) := by decide +kernel
theorem dXB_init_43 : decode cXB_init 43 = .ok (.putfield 24, 3) := by decide +kernel
theorem dXB_init_46 : decode cXB_init 46 = .ok (.aload_n 0, 1) := by decide +kernel
theorem dXB_init_47 : decode cXB_init 47 = .ok (.bipush 31, 2) := by decide +kernel
theorem dXB_init_49 : decode cXB_init 49 = .ok (.newarray .int, 2) := by decide +kernel
theorem dXB_init_51 : decode cXB_init 51 = .ok (.putfield 27, 3) := by decide +kernel
theorem dXB_init_54 : decode cXB_init 54 = .ok (.aload_n 0, 1) := by decide +kernel
theorem dXB_init_55 : decode cXB_init 55 = .ok (.bipush 32, 2) := by decide +kernel
theorem dXB_init_57 : decode cXB_init 57 = .ok (.newarray .int, 2) := by decide +kernel
theorem dXB_init_59 : decode cXB_init 59 = .ok (.putfield 30, 3) := by decide +kernel
theorem dXB_init_62 : decode cXB_init 62 = .ok (.aload_n 0, 1) := by decide +kernel
theorem dXB_init_63 : decode cXB_init 63 = .ok (.iconst 0, 1) := by decide +kernel
theorem dXB_init_64 : decode cXB_init 64 = .ok (.putfield 33, 3) := by decide +kernel
theorem dXB_init_67 : decode cXB_init 67 = .ok (.aload_n 0, 1) := by decide +kernel
theorem dXB_init_68 : decode cXB_init 68 = .ok (.iconst 0, 1) := by decide +kernel
theorem dXB_init_69 : decode cXB_init 69 = .ok (.putfield 37, 3) := by decide +kernel
theorem dXB_init_72 : decode cXB_init 72 = .ok (.return_, 1) := by decide +kernel
theorem dXG_read_0 : decode cXG_read 0 = .ok (.aload_n 0, 1) := by decide +kernel
theorem dXG_read_1 : decode cXG_read 1 = .ok (.getfield 46, 3) := by decide +kernel
theorem dXG_read_4 : decode cXG_read 4 = .ok (.invokevirtual 69, 3) := by decide +kernel
theorem dXG_read_7 : decode cXG_read 7 = .ok (.aload_n 0, 1) := by decide +kernel
theorem dXG_read_8 : decode cXG_read 8 = .ok (.getfield 21, 3) := by decide +kernel
theorem dXG_read_11 : decode cXG_read 11 = .ok (.aload_n 0, 1) := by decide +kernel
theorem dXG_read_12 : decode cXG_read 12 = .ok (.getfield 46, 3) := by decide +kernel
theorem dXG_read_15 : decode cXG_read 15 = .ok (.invokevirtual 72, 3) := by decide +kernel
theorem dXG_read_18 : decode cXG_read 18 = .ok (.istore_n 1, 1) := by decide +kernel
theorem dXG_read_19 : decode cXG_read 19 = .ok (.aload_n 0, 1) := by decide +kernel
theorem dXG_read_20 : decode cXG_read 20 = .ok (.getfield 10, 3) := by decide +kernel
theorem dXG_read_23 : decode cXG_read 23 = .ok (.invokevirtual 76, 3) := by decide +kernel
theorem dXG_read_26 : decode cXG_read 26 = .ok (.iload_n 1, 1) := by decide +kernel
theorem dXG_read_27 : decode cXG_read 27 = .ok (.ifCond .ne 13, 3) := by decide +kernel
theorem dXG_read_30 : decode cXG_read 30 = .ok (.iconst (-1), 1) := by decide +kernel
theorem dXG_read_31 : decode cXG_read 31 = .ok (.aload_n 0, 1) := by decide +kernel
theorem dXG_read_32 : decode cXG_read 32 = .ok (.getfield 10, 3) := by decide +kernel
theorem dXG_read_35 : decode cXG_read 35 = .ok (.invokevirtual 79, 3) := by decide +kernel
theorem dXG_read_38 : decode cXG_read 38 = .ok (.isub, 1) := by decide +kernel
theorem dXG_read_39 : decode cXG_read 39 = .ok (.ireturn, 1) := by decide +kernel
theorem dXG_read_40 : decode cXG_read 40 = .ok (.aload_n 0, 1) := by decide +kernel
theorem dXG_read_41 : decode cXG_read 41 = .ok (.getfield 46, 3) := by decide +kernel
theorem dXG_read_44 : decode cXG_read 44 = .ok (.invokevirtual 83, 3) := by decide +kernel
theorem dXG_read_47 : decode cXG_read 47 = .ok (.aload_n 0, 1) := by decide +kernel
theorem dXG_read_48 : decode cXG_read 48 = .ok (.getfield 42, 3) := by decide +kernel
theorem dXG_read_51 : decode cXG_read 51 = .ok (.astore_n 2, 1) := by decide +kernel
theorem dXG_read_52 : decode cXG_read 52 = .ok (.aload_n 0, 1) := by decide +kernel
theorem dXG_read_53 : decode cXG_read 53 = .ok (.aload_n 0, 1) := by decide +kernel
theorem dXG_read_54 : decode cXG_read 54 = .ok (.getfield 46, 3) := by decide +kernel
theorem dXG_read_57 : decode cXG_read 57 = .ok (.putfield 42, 3) := by decide +kernel
theorem dXG_read_60 : decode cXG_read 60 = .ok (.aload_n 0, 1) := by decide +kernel
theorem dXG_read_61 : decode cXG_read 61 = .ok (.aload_n 2, 1) := by decide +kernel
theorem dXG_read_62 : decode cXG_read 62 = .ok (.putfield 46, 3) := by decide +kernel
theorem dXG_read_65 : decode cXG_read 65 = .ok (.aload_n 0, 1) := by decide +kernel
theorem dXG_read_66 : decode cXG_read 66 = .ok (.getfield 42, 3) := by decide +kernel
theorem dXG_read_69 : decode cXG_read 69 = .ok (.invokevirtual 86, 3) := by decide +kernel
theorem dXG_read_72 : decode cXG_read 72 = .ok (.ireturn, 1) := by decide +kernel
theorem dXB_forget_0 : decode cXB_forget 0 = .ok (.aload_n 0, 1) := by decide +kernel
theorem dXB_forget_1 : decode cXB_forget 1 = .ok (.getfield 9, 3) := by decide +kernel
theorem dXB_forget_4 : decode cXB_forget 4 = .ok (.iconst 0, 1) := by decide +kernel
theorem dXB_forget_5 : decode cXB_forget 5 = .ok (.invokestatic 40, 3) := by decide +kernel
theorem dXB_forget_8 : decode cXB_forget 8 = .ok (.aload_n 0, 1) := by decide +kernel
theorem dXB_forget_9 : decode cXB_forget 9 = .ok (.getfield 21, 3) := by decide +kernel
theorem dXB_forget_12 : decode cXB_forget 12 = .ok (.iconst (-1), 1) := by decide +kernel
theorem dXB_forget_13 : decode cXB_forget 13 = .ok (.invokestatic 40, 3) := by decide +kernel
theorem dXB_forget_16 : decode cXB_forget 16 = .ok (.aload_n 0, 1) := by decide +kernel
theorem dXB_forget_17 : decode cXB_forget 17 = .ok (.getfield 24, 3) := by decide +kernel
theorem dXB_forget_20 : decode cXB_forget 20 = .ok (.iconst (-1), 1) := by decide +kernel
theorem dXB_forget_21 : decode cXB_forget 21 = .ok (.invokestatic 40, 3) := by decide +kernel
theorem dXB_forget_24 : decode cXB_forget 24 = .ok (.aload_n 0, 1) := by decide +kernel
theorem dXB_forget_25 : decode cXB_forget 25 = .ok (.getfield 27, 3) := by decide +kernel
theorem dXB_forget_28 : decode cXB_forget 28 = .ok (.iconst 0, 1) := by decide +kernel
theorem dXB_forget_29 : decode cXB_forget 29 = .ok (.invokestatic 40, 3) := by decide +kernel
theorem dXB_forget_32 : decode cXB_forget 32 = .ok (.aload_n 0, 1) := by decide +kernel
theorem dXB_forget_33 : decode cXB_forget 33 = .ok (.getfield 30, 3) := by decide +kernel
theorem dXB_forget_36 : decode cXB_forget 36 = .ok (.iconst 0, 1) := by decide +kernel
theorem dXB_forget_37 : decode cXB_forget 37 = .ok (.invokestatic 40, 3) := by decide +kernel
theorem dXB_forget_40 : decode cXB_forget 40 = .ok (.aload_n 0, 1) := by decide +kernel
theorem dXB_forget_41 : decode cXB_forget 41 = .ok (.iconst 0, 1) := by decide +kernel
theorem dXB_forget_42 : decode cXB_forget 42 = .ok (.putfield 33, 3) := by decide +kernel
theorem dXB_forget_45 : decode cXB_forget 45 = .ok (.aload_n 0, 1) := by decide +kernel
theorem dXB_forget_46 : decode cXB_forget 46 = .ok (.iconst 0, 1) := by decide +kernel
theorem dXB_forget_47 : decode cXB_forget 47 = .ok (.putfield 37, 3) := by decide +kernel
theorem dXB_forget_50 : decode cXB_forget 50 = .ok (.return_, 1) := by decide +kernel
theorem dXA_fill_0 : decode cXA_fill 0 = .ok (.iconst 0, 1) := by decide +kernel
theorem dXA_fill_1 : decode cXA_fill 1 = .ok (.istore_n 2, 1) := by decide +kernel
theorem dXA_fill_2 : decode cXA_fill 2 = .ok (.aload_n 0, 1) := by decide +kernel
theorem dXA_fill_3 : decode cXA_fill 3 = .ok (.arraylength, 1) := by decide +kernel
theorem dXA_fill_4 : decode cXA_fill 4 = .ok (.istore_n 3, 1) := by decide +kernel
theorem dXA_fill_5 : decode cXA_fill 5 = .ok (.iload_n 2, 1) := by decide +kernel
theorem dXA_fill_6 : decode cXA_fill 6 = .ok (.iload_n 3, 1) := by decide +kernel
theorem dXA_fill_7 : decode cXA_fill 7 = .ok (.if_icmp .ge 13, 3) := by decide +kernel
theorem dXA_fill_10 : decode cXA_fill 10 = .ok (.aload_n 0, 1) := by decide +kernel
theorem dXA_fill_11 : decode cXA_fill 11 = .ok (.iload_n 2, 1) := by decide +kernel
theorem dXA_fill_12 : decode cXA_fill 12 = .ok (.iload_n 1, 1) := by decide +kernel
theorem dXA_fill_13 : decode cXA_fill 13 = .ok (.iastore, 1) := by decide +kernel
theorem dXA_fill_14 : decode cXA_fill 14 = .ok (.iinc 2 1, 3) := by decide +kernel
theorem dXA_fill_17 : decode cXA_fill 17 = .ok (.goto (-12), 3) := by decide +kernel
theorem dXA_fill_20 : decode cXA_fill 20 = .ok (.return_, 1) := by decide +kernel
theorem dXR_text_0 : decode cXR_text 0 = .ok (.aload_n 0, 1) := by decide +kernel
theorem dXR_text_1 : decode cXR_text 1 = .ok (.getfield 9, 3) := by decide +kernel
theorem dXR_text_4 : decode cXR_text 4 = .ok (.invokevirtual 15, 3) := by decide +kernel
theorem dXR_text_7 : decode cXR_text 7 = .ok (.iconst 0, 1) := by decide +kernel
theorem dXR_text_8 : decode cXR_text 8 = .ok (.istore_n 2, 1) := by decide +kernel
theorem dXR_text_9 : decode cXR_text 9 = .ok (.iload_n 2, 1) := by decide +kernel
theorem dXR_text_10 : decode cXR_text 10 = .ok (.sipush 400, 3) := by decide +kernel
theorem dXR_text_13 : decode cXR_text 13 = .ok (.if_icmp .ge 30, 3) := by decide +kernel
theorem dXR_text_16 : decode cXR_text 16 = .ok (.aload_n 0, 1) := by decide +kernel
theorem dXR_text_17 : decode cXR_text 17 = .ok (.getfield 9, 3) := by decide +kernel
theorem dXR_text_20 : decode cXR_text 20 = .ok (.invokevirtual 20, 3) := by decide +kernel
theorem dXR_text_23 : decode cXR_text 23 = .ok (.iconst (-1), 1) := by decide +kernel
theorem dXR_text_24 : decode cXR_text 24 = .ok (.if_icmp .eq 19, 3) := by decide +kernel
theorem dXR_text_27 : decode cXR_text 27 = .ok (.aload_n 0, 1) := by decide +kernel
theorem dXR_text_28 : decode cXR_text 28 = .ok (.aload_n 1, 1) := by decide +kernel
theorem dXR_text_29 : decode cXR_text 29 = .ok (.invokevirtual 24, 3) := by decide +kernel
theorem dXR_text_32 : decode cXR_text 32 = .ok (.ifCond .ne 5, 3) := by decide +kernel
theorem dXR_text_35 : decode cXR_text 35 = .ok (.iconst 0, 1) := by decide +kernel
theorem dXR_text_36 : decode cXR_text 36 = .ok (.ireturn, 1) := by decide +kernel
theorem dXR_text_37 : decode cXR_text 37 = .ok (.iinc 2 1, 3) := by decide +kernel
theorem dXR_text_40 : decode cXR_text 40 = .ok (.goto (-31), 3) := by decide +kernel
theorem dXR_text_43 : decode cXR_text 43 = .ok (.iconst 1, 1) := by decide +kernel
theorem dXR_text_44 : decode cXR_text 44 = .ok (.ireturn, 1) := by decide +kernel
theorem dXT_rewind_0 : decode cXT_rewind 0 = .ok (.aload_n 0, 1) := by decide +kernel
theorem dXT_rewind_1 : decode cXT_rewind 1 = .ok (.iconst 0, 1) := by decide +kernel
theorem dXT_rewind_2 : decode cXT_rewind 2 = .ok (.putfield 19, 3) := by decide +kernel
theorem dXT_rewind_5 : decode cXT_rewind 5 = .ok (.return_, 1) := by decide +kernel
theorem dXT_next_0 : decode cXT_next 0 = .ok (.aload_n 0, 1) := by decide +kernel
theorem dXT_next_1 : decode cXT_next 1 = .ok (.getfield 19, 3) := by decide +kernel
theorem dXT_next_4 : decode cXT_next 4 = .ok (.aload_n 0, 1) := by decide +kernel
theorem dXT_next_5 : decode cXT_next 5 = .ok (.getfield 15, 3) := by decide +kernel
theorem dXT_next_8 : decode cXT_next 8 = .ok (.if_icmp .ge 30, 3) := by decide +kernel
theorem dXT_next_11 : decode cXT_next 11 = .ok (.aload_n 0, 1) := by decide +kernel
theorem dXT_next_12 : decode cXT_next 12 = .ok (.getfield 9, 3) := by decide +kernel
theorem dXT_next_15 : decode cXT_next 15 = .ok (.aload_n 0, 1) := by decide +kernel
theorem dXT_next_16 : decode cXT_next 16 = .ok (.getfield 19, 3) := by decide +kernel
theorem dXT_next_19 : decode cXT_next 19 = .ok (.iaload, 1) := by decide +kernel
theorem dXT_next_20 : decode cXT_next 20 = .ok (.bipush 32, 2) := by decide +kernel
theorem dXT_next_22 : decode cXT_next 22 = .ok (.if_icmp .ne 16, 3) := by decide +kernel
theorem dXT_next_25 : decode cXT_next 25 = .ok (.aload_n 0, 1) := by decide +kernel
theorem dXT_next_26 : decode cXT_next 26 = .ok (.dup, 1) := by decide +kernel
theorem dXT_next_27 : decode cXT_next 27 = .ok (.getfield 19, 3) := by decide +kernel
theorem dXT_next_30 : decode cXT_next 30 = .ok (.iconst 1, 1) := by decide +kernel
theorem dXT_next_31 : decode cXT_next 31 = .ok (.iadd, 1) := by decide +kernel
theorem dXT_next_32 : decode cXT_next 32 = .ok (.putfield 19, 3) := by decide +kernel
theorem dXT_next_35 : decode cXT_next 35 = .ok (.goto (-35), 3) := by decide +kernel
theorem dXT_next_38 : decode cXT_next 38 = .ok (.aload_n 0, 1) := by decide +kernel
theorem dXT_next_39 : decode cXT_next 39 = .ok (.getfield 19, 3) := by decide +kernel
theorem dXT_next_42 : decode cXT_next 42 = .ok (.aload_n 0, 1) := by decide +kernel
theorem dXT_next_43 : decode cXT_next 43 = .ok (.getfield 15, 3) := by decide +kernel
theorem dXT_next_46 : decode cXT_next 46 = .ok (.if_icmp .ge 15, 3) := by decide +kernel
theorem dXT_next_49 : decode cXT_next 49 = .ok (.aload_n 0, 1) := by decide +kernel
theorem dXT_next_50 : decode cXT_next 50 = .ok (.getfield 9, 3) := by decide +kernel
theorem dXT_next_53 : decode cXT_next 53 = .ok (.aload_n 0, 1) := by decide +kernel
theorem dXT_next_54 : decode cXT_next 54 = .ok (.getfield 19, 3) := by decide +kernel
theorem dXT_next_57 : decode cXT_next 57 = .ok (.iaload, 1) := by decide +kernel
theorem dXT_next_58 : decode cXT_next 58 = .ok (.goto 4, 3) := by decide +kernel
theorem dXT_next_61 : decode cXT_next 61 = .ok (.iconst (-1), 1) := by decide +kernel
theorem dXT_next_62 : decode cXT_next 62 = .ok (.ireturn, 1) := by decide +kernel
theorem dXR_row_0 : decode cXR_row 0 = .ok (.aload_n 0, 1) := by decide +kernel
theorem dXR_row_1 : decode cXR_row 1 = .ok (.getfield 9, 3) := by decide +kernel
theorem dXR_row_4 : decode cXR_row 4 = .ok (.bipush 101, 2) := by decide +kernel
theorem dXR_row_6 : decode cXR_row 6 = .ok (.invokevirtual 28, 3) := by decide +kernel
theorem dXR_row_9 : decode cXR_row 9 = .ok (.ifCond .eq 29, 3) := by decide +kernel
theorem dXR_row_12 : decode cXR_row 12 = .ok (.aload_n 0, 1) := by decide +kernel
theorem dXR_row_13 : decode cXR_row 13 = .ok (.aload_n 1, 1) := by decide +kernel
theorem dXR_row_14 : decode cXR_row 14 = .ok (.invokevirtual 32, 3) := by decide +kernel
theorem dXR_row_17 : decode cXR_row 17 = .ok (.ifCond .eq 19, 3) := by decide +kernel
theorem dXR_row_20 : decode cXR_row 20 = .ok (.aload_n 0, 1) := by decide +kernel
theorem dXR_row_21 : decode cXR_row 21 = .ok (.getfield 9, 3) := by decide +kernel
theorem dXR_row_24 : decode cXR_row 24 = .ok (.bipush 59, 2) := by decide +kernel
theorem dXR_row_26 : decode cXR_row 26 = .ok (.invokevirtual 35, 3) := by decide +kernel
theorem dXR_row_29 : decode cXR_row 29 = .ok (.ifCond .eq 7, 3) := by decide +kernel
theorem dXR_row_32 : decode cXR_row 32 = .ok (.iconst 1, 1) := by decide +kernel
theorem dXR_row_33 : decode cXR_row 33 = .ok (.goto 4, 3) := by decide +kernel
theorem dXR_row_36 : decode cXR_row 36 = .ok (.iconst 0, 1) := by decide +kernel
theorem dXR_row_37 : decode cXR_row 37 = .ok (.ireturn, 1) := by decide +kernel
theorem dXR_row_38 : decode cXR_row 38 = .ok (.aload_n 0, 1) := by decide +kernel
theorem dXR_row_39 : decode cXR_row 39 = .ok (.getfield 9, 3) := by decide +kernel
theorem dXR_row_42 : decode cXR_row 42 = .ok (.bipush 103, 2) := by decide +kernel
theorem dXR_row_44 : decode cXR_row 44 = .ok (.invokevirtual 28, 3) := by decide +kernel
theorem dXR_row_47 : decode cXR_row 47 = .ok (.ifCond .eq 29, 3) := by decide +kernel
theorem dXR_row_50 : decode cXR_row 50 = .ok (.aload_n 0, 1) := by decide +kernel
theorem dXR_row_51 : decode cXR_row 51 = .ok (.aload_n 1, 1) := by decide +kernel
theorem dXR_row_52 : decode cXR_row 52 = .ok (.invokevirtual 38, 3) := by decide +kernel
theorem dXR_row_55 : decode cXR_row 55 = .ok (.ifCond .eq 19, 3) := by decide +kernel
theorem dXR_row_58 : decode cXR_row 58 = .ok (.aload_n 0, 1) := by decide +kernel
theorem dXR_row_59 : decode cXR_row 59 = .ok (.getfield 9, 3) := by decide +kernel
theorem dXR_row_62 : decode cXR_row 62 = .ok (.bipush 59, 2) := by decide +kernel
theorem dXR_row_64 : decode cXR_row 64 = .ok (.invokevirtual 35, 3) := by decide +kernel
theorem dXR_row_67 : decode cXR_row 67 = .ok (.ifCond .eq 7, 3) := by decide +kernel
theorem dXR_row_70 : decode cXR_row 70 = .ok (.iconst 1, 1) := by decide +kernel
theorem dXR_row_71 : decode cXR_row 71 = .ok (.goto 4, 3) := by decide +kernel
theorem dXR_row_74 : decode cXR_row 74 = .ok (.iconst 0, 1) := by decide +kernel
theorem dXR_row_75 : decode cXR_row 75 = .ok (.ireturn, 1) := by decide +kernel
theorem dXR_row_76 : decode cXR_row 76 = .ok (.aload_n 0, 1) := by decide +kernel
theorem dXR_row_77 : decode cXR_row 77 = .ok (.getfield 9, 3) := by decide +kernel
theorem dXR_row_80 : decode cXR_row 80 = .ok (.invokevirtual 41, 3) := by decide +kernel
theorem dXR_row_83 : decode cXR_row 83 = .ok (.ireturn, 1) := by decide +kernel
theorem dXT_skipIf_0 : decode cXT_skipIf 0 = .ok (.aload_n 0, 1) := by decide +kernel
theorem dXT_skipIf_1 : decode cXT_skipIf 1 = .ok (.invokevirtual 27, 3) := by decide +kernel
theorem dXT_skipIf_4 : decode cXT_skipIf 4 = .ok (.iload_n 1, 1) := by decide +kernel
theorem dXT_skipIf_5 : decode cXT_skipIf 5 = .ok (.if_icmp .eq 5, 3) := by decide +kernel
theorem dXT_skipIf_8 : decode cXT_skipIf 8 = .ok (.iconst 0, 1) := by decide +kernel
theorem dXT_skipIf_9 : decode cXT_skipIf 9 = .ok (.ireturn, 1) := by decide +kernel
theorem dXT_skipIf_10 : decode cXT_skipIf 10 = .ok (.aload_n 0, 1) := by decide +kernel
theorem dXT_skipIf_11 : decode cXT_skipIf 11 = .ok (.dup, 1) := by decide +kernel
theorem dXT_skipIf_12 : decode cXT_skipIf 12 = .ok (.getfield 19, 3) := by decide +kernel
theorem dXT_skipIf_15 : decode cXT_skipIf 15 = .ok (.iconst 1, 1) := by decide +kernel
theorem dXT_skipIf_16 : decode cXT_skipIf 16 = .ok (.iadd, 1) := by decide +kernel
theorem dXT_skipIf_17 : decode cXT_skipIf 17 = .ok (.putfield 19, 3) := by decide +kernel
theorem dXT_skipIf_20 : decode cXT_skipIf 20 = .ok (.iconst 1, 1) := by decide +kernel
theorem dXT_skipIf_21 : decode cXT_skipIf 21 = .ok (.ireturn, 1) := by decide +kernel
theorem dXR_formula_0 : decode cXR_formula 0 = .ok (.aload_n 0, 1) := by decide +kernel
theorem dXR_formula_1 : decode cXR_formula 1 = .ok (.getfield 9, 3) := by decide +kernel
theorem dXR_formula_4 : decode cXR_formula 4 = .ok (.bipush 48, 2) := by decide +kernel
theorem dXR_formula_6 : decode cXR_formula 6 = .ok (.iconst 4, 1) := by decide +kernel
theorem dXR_formula_7 : decode cXR_formula 7 = .ok (.invokevirtual 45, 3) := by decide +kernel
theorem dXR_formula_10 : decode cXR_formula 10 = .ok (.istore_n 2, 1) := by decide +kernel
theorem dXR_formula_11 : decode cXR_formula 11 = .ok (.iload_n 2, 1) := by decide +kernel
theorem dXR_formula_12 : decode cXR_formula 12 = .ok (.iconst (-1), 1) := by decide +kernel
theorem dXR_formula_13 : decode cXR_formula 13 = .ok (.if_icmp .ne 5, 3) := by decide +kernel
theorem dXR_formula_16 : decode cXR_formula 16 = .ok (.iconst 0, 1) := by decide +kernel
theorem dXR_formula_17 : decode cXR_formula 17 = .ok (.ireturn, 1) := by decide +kernel
theorem dXR_formula_18 : decode cXR_formula 18 = .ok (.aload_n 1, 1) := by decide +kernel
theorem dXR_formula_19 : decode cXR_formula 19 = .ok (.iload_n 2, 1) := by decide +kernel
theorem dXR_formula_20 : decode cXR_formula 20 = .ok (.invokevirtual 49, 3) := by decide +kernel
theorem dXR_formula_23 : decode cXR_formula 23 = .ok (.ifCond .eq 11, 3) := by decide +kernel
theorem dXR_formula_26 : decode cXR_formula 26 = .ok (.aload_n 0, 1) := by decide +kernel
theorem dXR_formula_27 : decode cXR_formula 27 = .ok (.getfield 9, 3) := by decide +kernel
theorem dXR_formula_30 : decode cXR_formula 30 = .ok (.invokevirtual 54, 3) := by decide +kernel
theorem dXR_formula_33 : decode cXR_formula 33 = .ok (.ireturn, 1) := by decide +kernel
theorem dXR_formula_34 : decode cXR_formula 34 = .ok (.aload_n 1, 1) := by decide +kernel
theorem dXR_formula_35 : decode cXR_formula 35 = .ok (.iload_n 2, 1) := by decide +kernel
theorem dXR_formula_36 : decode cXR_formula 36 = .ok (.invokevirtual 57, 3) := by decide +kernel
theorem dXR_formula_39 : decode cXR_formula 39 = .ok (.aload_n 0, 1) := by decide +kernel
theorem dXR_formula_40 : decode cXR_formula 40 = .ok (.getfield 9, 3) := by decide +kernel
theorem dXR_formula_43 : decode cXR_formula 43 = .ok (.bipush 61, 2) := by decide +kernel
theorem dXR_formula_45 : decode cXR_formula 45 = .ok (.invokevirtual 35, 3) := by decide +kernel
theorem dXR_formula_48 : decode cXR_formula 48 = .ok (.ifCond .eq 16, 3) := by decide +kernel
theorem dXR_formula_51 : decode cXR_formula 51 = .ok (.aload_n 0, 1) := by decide +kernel
theorem dXR_formula_52 : decode cXR_formula 52 = .ok (.aload_n 1, 1) := by decide +kernel
theorem dXR_formula_53 : decode cXR_formula 53 = .ok (.iload_n 2, 1) := by decide +kernel
theorem dXR_formula_54 : decode cXR_formula 54 = .ok (.invokevirtual 61, 3) := by decide +kernel
theorem dXR_formula_57 : decode cXR_formula 57 = .ok (.ifCond .eq 7, 3) := by decide +kernel
theorem dXR_formula_60 : decode cXR_formula 60 = .ok (.iconst 1, 1) := by decide +kernel
theorem dXR_formula_61 : decode cXR_formula 61 = .ok (.goto 4, 3) := by decide +kernel
theorem dXR_formula_64 : decode cXR_formula 64 = .ok (.iconst 0, 1) := by decide +kernel
theorem dXR_formula_65 : decode cXR_formula 65 = .ok (.ireturn, 1) := by decide +kernel
theorem dXT_takeOneOf_0 : decode cXT_takeOneOf 0 = .ok (.aload_n 0, 1) := by decide +kernel
theorem dXT_takeOneOf_1 : decode cXT_takeOneOf 1 = .ok (.invokevirtual 27, 3) := by decide +kernel
theorem dXT_takeOneOf_4 : decode cXT_takeOneOf 4 = .ok (.iload_n 1, 1) := by decide +kernel
theorem dXT_takeOneOf_5 : decode cXT_takeOneOf 5 = .ok (.isub, 1) := by decide +kernel
theorem dXT_takeOneOf_6 : decode cXT_takeOneOf 6 = .ok (.istore_n 3, 1) := by decide +kernel
theorem dXT_takeOneOf_7 : decode cXT_takeOneOf 7 = .ok (.iload_n 3, 1) := by decide +kernel
theorem dXT_takeOneOf_8 : decode cXT_takeOneOf 8 = .ok (.ifCond .lt 8, 3) := by decide +kernel
theorem dXT_takeOneOf_11 : decode cXT_takeOneOf 11 = .ok (.iload_n 3, 1) := by decide +kernel
theorem dXT_takeOneOf_12 : decode cXT_takeOneOf 12 = .ok (.iload_n 2, 1) := by decide +kernel
theorem dXT_takeOneOf_13 : decode cXT_takeOneOf 13 = .ok (.if_icmp .lt 10, 3) := by decide +kernel
theorem dXT_takeOneOf_16 : decode cXT_takeOneOf 16 = .ok (.aload_n 0, 1) := by decide +kernel
theorem dXT_takeOneOf_17 : decode cXT_takeOneOf 17 = .ok (.invokevirtual 31, 3) := by decide +kernel
theorem dXT_takeOneOf_20 : decode cXT_takeOneOf 20 = .ok (.pop, 1) := by decide +kernel
theorem dXT_takeOneOf_21 : decode cXT_takeOneOf 21 = .ok (.iconst (-1), 1) := by decide +kernel
theorem dXT_takeOneOf_22 : decode cXT_takeOneOf 22 = .ok (.ireturn, 1) := by decide +kernel
theorem dXT_takeOneOf_23 : decode cXT_takeOneOf 23 = .ok (.aload_n 0, 1) := by decide +kernel
theorem dXT_takeOneOf_24 : decode cXT_takeOneOf 24 = .ok (.dup, 1) := by decide +kernel
theorem dXT_takeOneOf_25 : decode cXT_takeOneOf 25 = .ok (.getfield 19, 3) := by decide +kernel
theorem dXT_takeOneOf_28 : decode cXT_takeOneOf 28 = .ok (.iconst 1, 1) := by decide +kernel
theorem dXT_takeOneOf_29 : decode cXT_takeOneOf 29 = .ok (.iadd, 1) := by decide +kernel
theorem dXT_takeOneOf_30 : decode cXT_takeOneOf 30 = .ok (.putfield 19, 3) := by decide +kernel
theorem dXT_takeOneOf_33 : decode cXT_takeOneOf 33 = .ok (.iload_n 3, 1) := by decide +kernel
theorem dXT_takeOneOf_34 : decode cXT_takeOneOf 34 = .ok (.ireturn, 1) := by decide +kernel
theorem dXT_refuse_0 : decode cXT_refuse 0 = .ok (.aload_n 0, 1) := by decide +kernel
theorem dXT_refuse_1 : decode cXT_refuse 1 = .ok (.aload_n 0, 1) := by decide +kernel
theorem dXT_refuse_2 : decode cXT_refuse 2 = .ok (.getfield 19, 3) := by decide +kernel
theorem dXT_refuse_5 : decode cXT_refuse 5 = .ok (.putfield 22, 3) := by decide +kernel
theorem dXT_refuse_8 : decode cXT_refuse 8 = .ok (.iconst 0, 1) := by decide +kernel
theorem dXT_refuse_9 : decode cXT_refuse 9 = .ok (.ireturn, 1) := by decide +kernel
theorem dXB_hasFormula_0 : decode cXB_hasFormula 0 = .ok (.aload_n 0, 1) := by decide +kernel
theorem dXB_hasFormula_1 : decode cXB_hasFormula 1 = .ok (.getfield 37, 3) := by decide +kernel
theorem dXB_hasFormula_4 : decode cXB_hasFormula 4 = .ok (.iload_n 1, 1) := by decide +kernel
theorem dXB_hasFormula_5 : decode cXB_hasFormula 5 = .ok (.invokestatic 52, 3) := by decide +kernel
theorem dXB_hasFormula_8 : decode cXB_hasFormula 8 = .ok (.ireturn, 1) := by decide +kernel
theorem dXG_hasBit_0 : decode cXG_hasBit 0 = .ok (.iload_n 0, 1) := by decide +kernel
theorem dXG_hasBit_1 : decode cXG_hasBit 1 = .ok (.iconst 1, 1) := by decide +kernel
theorem dXG_hasBit_2 : decode cXG_hasBit 2 = .ok (.iload_n 1, 1) := by decide +kernel
theorem dXG_hasBit_3 : decode cXG_hasBit 3 = .ok (.ishl, 1) := by decide +kernel
theorem dXG_hasBit_4 : decode cXG_hasBit 4 = .ok (.iand, 1) := by decide +kernel
theorem dXG_hasBit_5 : decode cXG_hasBit 5 = .ok (.ifCond .eq 7, 3) := by decide +kernel
theorem dXG_hasBit_8 : decode cXG_hasBit 8 = .ok (.iconst 1, 1) := by decide +kernel
theorem dXG_hasBit_9 : decode cXG_hasBit 9 = .ok (.goto 4, 3) := by decide +kernel
theorem dXG_hasBit_12 : decode cXG_hasBit 12 = .ok (.iconst 0, 1) := by decide +kernel
theorem dXG_hasBit_13 : decode cXG_hasBit 13 = .ok (.ireturn, 1) := by decide +kernel
theorem dXT_refuseLast_0 : decode cXT_refuseLast 0 = .ok (.aload_n 0, 1) := by decide +kernel
theorem dXT_refuseLast_1 : decode cXT_refuseLast 1 = .ok (.aload_n 0, 1) := by decide +kernel
theorem dXT_refuseLast_2 : decode cXT_refuseLast 2 = .ok (.getfield 19, 3) := by decide +kernel
theorem dXT_refuseLast_5 : decode cXT_refuseLast 5 = .ok (.iconst 1, 1) := by decide +kernel
theorem dXT_refuseLast_6 : decode cXT_refuseLast 6 = .ok (.isub, 1) := by decide +kernel
theorem dXT_refuseLast_7 : decode cXT_refuseLast 7 = .ok (.putfield 22, 3) := by decide +kernel
theorem dXT_refuseLast_10 : decode cXT_refuseLast 10 = .ok (.iconst 0, 1) := by decide +kernel
theorem dXT_refuseLast_11 : decode cXT_refuseLast 11 = .ok (.ireturn, 1) := by decide +kernel
theorem dXB_tellFormula_0 : decode cXB_tellFormula 0 = .ok (.aload_n 0, 1) := by decide +kernel
theorem dXB_tellFormula_1 : decode cXB_tellFormula 1 = .ok (.dup, 1) := by decide +kernel
theorem dXB_tellFormula_2 : decode cXB_tellFormula 2 = .ok (.getfield 37, 3) := by decide +kernel
theorem dXB_tellFormula_5 : decode cXB_tellFormula 5 = .ok (.iconst 1, 1) := by decide +kernel
theorem dXB_tellFormula_6 : decode cXB_tellFormula 6 = .ok (.iload_n 1, 1) := by decide +kernel
theorem dXB_tellFormula_7 : decode cXB_tellFormula 7 = .ok (.ishl, 1) := by decide +kernel
theorem dXB_tellFormula_8 : decode cXB_tellFormula 8 = .ok (.ior, 1) := by decide +kernel
theorem dXB_tellFormula_9 : decode cXB_tellFormula 9 = .ok (.putfield 37, 3) := by decide +kernel
theorem dXB_tellFormula_12 : decode cXB_tellFormula 12 = .ok (.return_, 1) := by decide +kernel
theorem dXT_take_0 : decode cXT_take 0 = .ok (.aload_n 0, 1) := by decide +kernel
theorem dXT_take_1 : decode cXT_take 1 = .ok (.invokevirtual 27, 3) := by decide +kernel
theorem dXT_take_4 : decode cXT_take 4 = .ok (.iload_n 1, 1) := by decide +kernel
theorem dXT_take_5 : decode cXT_take 5 = .ok (.if_icmp .eq 8, 3) := by decide +kernel
theorem dXT_take_8 : decode cXT_take 8 = .ok (.aload_n 0, 1) := by decide +kernel
theorem dXT_take_9 : decode cXT_take 9 = .ok (.invokevirtual 31, 3) := by decide +kernel
theorem dXT_take_12 : decode cXT_take 12 = .ok (.ireturn, 1) := by decide +kernel
theorem dXT_take_13 : decode cXT_take 13 = .ok (.aload_n 0, 1) := by decide +kernel
theorem dXT_take_14 : decode cXT_take 14 = .ok (.dup, 1) := by decide +kernel
theorem dXT_take_15 : decode cXT_take 15 = .ok (.getfield 19, 3) := by decide +kernel
theorem dXT_take_18 : decode cXT_take 18 = .ok (.iconst 1, 1) := by decide +kernel
theorem dXT_take_19 : decode cXT_take 19 = .ok (.iadd, 1) := by decide +kernel
theorem dXT_take_20 : decode cXT_take 20 = .ok (.putfield 19, 3) := by decide +kernel
theorem dXT_take_23 : decode cXT_take 23 = .ok (.iconst 1, 1) := by decide +kernel
theorem dXT_take_24 : decode cXT_take 24 = .ok (.ireturn, 1) := by decide +kernel
theorem dXR_terms_0 : decode cXR_terms 0 = .ok (.iconst 0, 1) := by decide +kernel
theorem dXR_terms_1 : decode cXR_terms 1 = .ok (.istore_n 3, 1) := by decide +kernel
theorem dXR_terms_2 : decode cXR_terms 2 = .ok (.iload_n 3, 1) := by decide +kernel
theorem dXR_terms_3 : decode cXR_terms 3 = .ok (.bipush 8, 2) := by decide +kernel
theorem dXR_terms_5 : decode cXR_terms 5 = .ok (.if_icmp .gt 107, 3) := by decide +kernel
theorem dXR_terms_8 : decode cXR_terms 8 = .ok (.aload_n 0, 1) := by decide +kernel
theorem dXR_terms_9 : decode cXR_terms 9 = .ok (.getfield 9, 3) := by decide +kernel
theorem dXR_terms_12 : decode cXR_terms 12 = .ok (.bipush 65, 2) := by decide +kernel
theorem dXR_terms_14 : decode cXR_terms 14 = .ok (.bipush 8, 2) := by decide +kernel
theorem dXR_terms_16 : decode cXR_terms 16 = .ok (.invokevirtual 45, 3) := by decide +kernel
theorem dXR_terms_19 : decode cXR_terms 19 = .ok (.istore 4, 2) := by decide +kernel
theorem dXR_terms_21 : decode cXR_terms 21 = .ok (.iload 4, 2) := by decide +kernel
theorem dXR_terms_23 : decode cXR_terms 23 = .ok (.iconst (-1), 1) := by decide +kernel
theorem dXR_terms_24 : decode cXR_terms 24 = .ok (.if_icmp .ne 5, 3) := by decide +kernel
theorem dXR_terms_27 : decode cXR_terms 27 = .ok (.iconst 0, 1) := by decide +kernel
theorem dXR_terms_28 : decode cXR_terms 28 = .ok (.ireturn, 1) := by decide +kernel
theorem dXR_terms_29 : decode cXR_terms 29 = .ok (.aload_n 1, 1) := by decide +kernel
theorem dXR_terms_30 : decode cXR_terms 30 = .ok (.iload_n 2, 1) := by decide +kernel
theorem dXR_terms_31 : decode cXR_terms 31 = .ok (.iload 4, 2) := by decide +kernel
theorem dXR_terms_33 : decode cXR_terms 33 = .ok (.invokevirtual 65, 3) := by decide +kernel
theorem dXR_terms_36 : decode cXR_terms 36 = .ok (.ifCond .le 11, 3) := by decide +kernel
theorem dXR_terms_39 : decode cXR_terms 39 = .ok (.aload_n 0, 1) := by decide +kernel
theorem dXR_terms_40 : decode cXR_terms 40 = .ok (.getfield 9, 3) := by decide +kernel
theorem dXR_terms_43 : decode cXR_terms 43 = .ok (.invokevirtual 54, 3) := by decide +kernel
theorem dXR_terms_46 : decode cXR_terms 46 = .ok (.ireturn, 1) := by decide +kernel
theorem dXR_terms_47 : decode cXR_terms 47 = .ok (.aload_n 0, 1) := by decide +kernel
theorem dXR_terms_48 : decode cXR_terms 48 = .ok (.getfield 9, 3) := by decide +kernel
theorem dXR_terms_51 : decode cXR_terms 51 = .ok (.bipush 47, 2) := by decide +kernel
theorem dXR_terms_53 : decode cXR_terms 53 = .ok (.invokevirtual 28, 3) := by decide +kernel
theorem dXR_terms_56 : decode cXR_terms 56 = .ok (.ifCond .eq 16, 3) := by decide +kernel
theorem dXR_terms_59 : decode cXR_terms 59 = .ok (.aload_n 0, 1) := by decide +kernel
theorem dXR_terms_60 : decode cXR_terms 60 = .ok (.getfield 9, 3) := by decide +kernel
theorem dXR_terms_63 : decode cXR_terms 63 = .ok (.iconst 1, 1) := by decide +kernel
theorem dXR_terms_64 : decode cXR_terms 64 = .ok (.bipush 20, 2) := by decide +kernel
theorem dXR_terms_66 : decode cXR_terms 66 = .ok (.invokevirtual 68, 3) := by decide +kernel
theorem dXR_terms_69 : decode cXR_terms 69 = .ok (.goto 4, 3) := by decide +kernel
theorem dXR_terms_72 : decode cXR_terms 72 = .ok (.iconst 1, 1) := by decide +kernel
theorem dXR_terms_73 : decode cXR_terms 73 = .ok (.istore 5, 2) := by decide +kernel
theorem dXR_terms_75 : decode cXR_terms 75 = .ok (.iload 5, 2) := by decide +kernel
theorem dXR_terms_77 : decode cXR_terms 77 = .ok (.iconst (-1), 1) := by decide +kernel
theorem dXR_terms_78 : decode cXR_terms 78 = .ok (.if_icmp .ne 5, 3) := by decide +kernel
theorem dXR_terms_81 : decode cXR_terms 81 = .ok (.iconst 0, 1) := by decide +kernel
theorem dXR_terms_82 : decode cXR_terms 82 = .ok (.ireturn, 1) := by decide +kernel
theorem dXR_terms_83 : decode cXR_terms 83 = .ok (.aload_n 1, 1) := by decide +kernel
theorem dXR_terms_84 : decode cXR_terms 84 = .ok (.iload_n 2, 1) := by decide +kernel
theorem dXR_terms_85 : decode cXR_terms 85 = .ok (.iload 4, 2) := by decide +kernel
theorem dXR_terms_87 : decode cXR_terms 87 = .ok (.iload 5, 2) := by decide +kernel
theorem dXR_terms_89 : decode cXR_terms 89 = .ok (.invokevirtual 71, 3) := by decide +kernel
theorem dXR_terms_92 : decode cXR_terms 92 = .ok (.aload_n 0, 1) := by decide +kernel
theorem dXR_terms_93 : decode cXR_terms 93 = .ok (.getfield 9, 3) := by decide +kernel
theorem dXR_terms_96 : decode cXR_terms 96 = .ok (.bipush 43, 2) := by decide +kernel
theorem dXR_terms_98 : decode cXR_terms 98 = .ok (.invokevirtual 28, 3) := by decide +kernel
theorem dXR_terms_101 : decode cXR_terms 101 = .ok (.ifCond .ne 5, 3) := by decide +kernel
theorem dXR_terms_104 : decode cXR_terms 104 = .ok (.iconst 1, 1) := by decide +kernel
theorem dXR_terms_105 : decode cXR_terms 105 = .ok (.ireturn, 1) := by decide +kernel
theorem dXR_terms_106 : decode cXR_terms 106 = .ok (.iinc 3 1, 3) := by decide +kernel
theorem dXR_terms_109 : decode cXR_terms 109 = .ok (.goto (-107), 3) := by decide +kernel
theorem dXR_terms_112 : decode cXR_terms 112 = .ok (.aload_n 0, 1) := by decide +kernel
theorem dXR_terms_113 : decode cXR_terms 113 = .ok (.getfield 9, 3) := by decide +kernel
theorem dXR_terms_116 : decode cXR_terms 116 = .ok (.invokevirtual 41, 3) := by decide +kernel
theorem dXR_terms_119 : decode cXR_terms 119 = .ok (.ireturn, 1) := by decide +kernel
theorem dXB_divisorOf_0 : decode cXB_divisorOf 0 = .ok (.aload_n 0, 1) := by decide +kernel
theorem dXB_divisorOf_1 : decode cXB_divisorOf 1 = .ok (.getfield 30, 3) := by decide +kernel
theorem dXB_divisorOf_4 : decode cXB_divisorOf 4 = .ok (.iload_n 1, 1) := by decide +kernel
theorem dXB_divisorOf_5 : decode cXB_divisorOf 5 = .ok (.bipush 8, 2) := by decide +kernel
theorem dXB_divisorOf_7 : decode cXB_divisorOf 7 = .ok (.imul, 1) := by decide +kernel
theorem dXB_divisorOf_8 : decode cXB_divisorOf 8 = .ok (.iload_n 2, 1) := by decide +kernel
theorem dXB_divisorOf_9 : decode cXB_divisorOf 9 = .ok (.iadd, 1) := by decide +kernel
theorem dXB_divisorOf_10 : decode cXB_divisorOf 10 = .ok (.iaload, 1) := by decide +kernel
theorem dXB_divisorOf_11 : decode cXB_divisorOf 11 = .ok (.ireturn, 1) := by decide +kernel
theorem dXT_number_0 : decode cXT_number 0 = .ok (.aload_n 0, 1) := by decide +kernel
theorem dXT_number_1 : decode cXT_number 1 = .ok (.invokevirtual 27, 3) := by decide +kernel
theorem dXT_number_4 : decode cXT_number 4 = .ok (.invokestatic 35, 3) := by decide +kernel
theorem dXT_number_7 : decode cXT_number 7 = .ok (.ifCond .ne 10, 3) := by decide +kernel
theorem dXT_number_10 : decode cXT_number 10 = .ok (.aload_n 0, 1) := by decide +kernel
theorem dXT_number_11 : decode cXT_number 11 = .ok (.invokevirtual 31, 3) := by decide +kernel
theorem dXT_number_14 : decode cXT_number 14 = .ok (.pop, 1) := by decide +kernel
theorem dXT_number_15 : decode cXT_number 15 = .ok (.iconst (-1), 1) := by decide +kernel
theorem dXT_number_16 : decode cXT_number 16 = .ok (.ireturn, 1) := by decide +kernel
theorem dXT_number_17 : decode cXT_number 17 = .ok (.iconst 0, 1) := by decide +kernel
theorem dXT_number_18 : decode cXT_number 18 = .ok (.istore_n 3, 1) := by decide +kernel
theorem dXT_number_19 : decode cXT_number 19 = .ok (.iconst 0, 1) := by decide +kernel
theorem dXT_number_20 : decode cXT_number 20 = .ok (.istore 4, 2) := by decide +kernel
theorem dXT_number_22 : decode cXT_number 22 = .ok (.iload 4, 2) := by decide +kernel
theorem dXT_number_24 : decode cXT_number 24 = .ok (.bipush 6, 2) := by decide +kernel
theorem dXT_number_26 : decode cXT_number 26 = .ok (.if_icmp .ge 54, 3) := by decide +kernel
theorem dXT_number_29 : decode cXT_number 29 = .ok (.aload_n 0, 1) := by decide +kernel
theorem dXT_number_30 : decode cXT_number 30 = .ok (.invokevirtual 39, 3) := by decide +kernel
theorem dXT_number_33 : decode cXT_number 33 = .ok (.invokestatic 35, 3) := by decide +kernel
theorem dXT_number_36 : decode cXT_number 36 = .ok (.ifCond .eq 44, 3) := by decide +kernel
theorem dXT_number_39 : decode cXT_number 39 = .ok (.iload 4, 2) := by decide +kernel
theorem dXT_number_41 : decode cXT_number 41 = .ok (.ifCond .le 10, 3) := by decide +kernel
theorem dXT_number_44 : decode cXT_number 44 = .ok (.iload_n 3, 1) := by decide +kernel
theorem dXT_number_45 : decode cXT_number 45 = .ok (.ifCond .ne 6, 3) := by decide +kernel
theorem dXT_number_48 : decode cXT_number 48 = .ok (.goto 32, 3) := by decide +kernel
theorem dXT_number_51 : decode cXT_number 51 = .ok (.iload_n 3, 1) := by decide +kernel
theorem dXT_number_52 : decode cXT_number 52 = .ok (.bipush 10, 2) := by decide +kernel
theorem dXT_number_54 : decode cXT_number 54 = .ok (.imul, 1) := by decide +kernel
theorem dXT_number_55 : decode cXT_number 55 = .ok (.aload_n 0, 1) := by decide +kernel
theorem dXT_number_56 : decode cXT_number 56 = .ok (.invokevirtual 39, 3) := by decide +kernel
theorem dXT_number_59 : decode cXT_number 59 = .ok (.iadd, 1) := by decide +kernel
theorem dXT_number_60 : decode cXT_number 60 = .ok (.bipush 48, 2) := by decide +kernel
theorem dXT_number_62 : decode cXT_number 62 = .ok (.isub, 1) := by decide +kernel
theorem dXT_number_63 : decode cXT_number 63 = .ok (.istore_n 3, 1) := by decide +kernel
theorem dXT_number_64 : decode cXT_number 64 = .ok (.aload_n 0, 1) := by decide +kernel
theorem dXT_number_65 : decode cXT_number 65 = .ok (.dup, 1) := by decide +kernel
theorem dXT_number_66 : decode cXT_number 66 = .ok (.getfield 19, 3) := by decide +kernel
theorem dXT_number_69 : decode cXT_number 69 = .ok (.iconst 1, 1) := by decide +kernel
theorem dXT_number_70 : decode cXT_number 70 = .ok (.iadd, 1) := by decide +kernel
theorem dXT_number_71 : decode cXT_number 71 = .ok (.putfield 19, 3) := by decide +kernel
theorem dXT_number_74 : decode cXT_number 74 = .ok (.iinc 4 1, 3) := by decide +kernel
theorem dXT_number_77 : decode cXT_number 77 = .ok (.goto (-55), 3) := by decide +kernel
theorem dXT_number_80 : decode cXT_number 80 = .ok (.iload_n 3, 1) := by decide +kernel
theorem dXT_number_81 : decode cXT_number 81 = .ok (.iload_n 1, 1) := by decide +kernel
theorem dXT_number_82 : decode cXT_number 82 = .ok (.if_icmp .lt 8, 3) := by decide +kernel
theorem dXT_number_85 : decode cXT_number 85 = .ok (.iload_n 3, 1) := by decide +kernel
theorem dXT_number_86 : decode cXT_number 86 = .ok (.iload_n 2, 1) := by decide +kernel
theorem dXT_number_87 : decode cXT_number 87 = .ok (.if_icmp .le 10, 3) := by decide +kernel
theorem dXT_number_90 : decode cXT_number 90 = .ok (.aload_n 0, 1) := by decide +kernel
theorem dXT_number_91 : decode cXT_number 91 = .ok (.invokevirtual 42, 3) := by decide +kernel
theorem dXT_number_94 : decode cXT_number 94 = .ok (.pop, 1) := by decide +kernel
theorem dXT_number_95 : decode cXT_number 95 = .ok (.iconst (-1), 1) := by decide +kernel
theorem dXT_number_96 : decode cXT_number 96 = .ok (.ireturn, 1) := by decide +kernel
theorem dXT_number_97 : decode cXT_number 97 = .ok (.aload_n 0, 1) := by decide +kernel
theorem dXT_number_98 : decode cXT_number 98 = .ok (.invokevirtual 39, 3) := by decide +kernel
theorem dXT_number_101 : decode cXT_number 101 = .ok (.invokestatic 35, 3) := by decide +kernel
theorem dXT_number_104 : decode cXT_number 104 = .ok (.ifCond .eq 10, 3) := by decide +kernel
theorem dXT_number_107 : decode cXT_number 107 = .ok (.aload_n 0, 1) := by decide +kernel
theorem dXT_number_108 : decode cXT_number 108 = .ok (.invokevirtual 31, 3) := by decide +kernel
theorem dXT_number_111 : decode cXT_number 111 = .ok (.pop, 1) := by decide +kernel
theorem dXT_number_112 : decode cXT_number 112 = .ok (.iconst (-1), 1) := by decide +kernel
theorem dXT_number_113 : decode cXT_number 113 = .ok (.ireturn, 1) := by decide +kernel
theorem dXT_number_114 : decode cXT_number 114 = .ok (.iload_n 3, 1) := by decide +kernel
theorem dXT_number_115 : decode cXT_number 115 = .ok (.ireturn, 1) := by decide +kernel
theorem dXG_isDigit_0 : decode cXG_isDigit 0 = .ok (.iload_n 0, 1) := by decide +kernel
theorem dXG_isDigit_1 : decode cXG_isDigit 1 = .ok (.bipush 48, 2) := by decide +kernel
theorem dXG_isDigit_3 : decode cXG_isDigit 3 = .ok (.if_icmp .lt 13, 3) := by decide +kernel
theorem dXG_isDigit_6 : decode cXG_isDigit 6 = .ok (.iload_n 0, 1) := by decide +kernel
theorem dXG_isDigit_7 : decode cXG_isDigit 7 = .ok (.bipush 57, 2) := by decide +kernel
theorem dXG_isDigit_9 : decode cXG_isDigit 9 = .ok (.if_icmp .gt 7, 3) := by decide +kernel
theorem dXG_isDigit_12 : decode cXG_isDigit 12 = .ok (.iconst 1, 1) := by decide +kernel
theorem dXG_isDigit_13 : decode cXG_isDigit 13 = .ok (.goto 4, 3) := by decide +kernel
theorem dXG_isDigit_16 : decode cXG_isDigit 16 = .ok (.iconst 0, 1) := by decide +kernel
theorem dXG_isDigit_17 : decode cXG_isDigit 17 = .ok (.ireturn, 1) := by decide +kernel
theorem dXT_here_0 : decode cXT_here 0 = .ok (.aload_n 0, 1) := by decide +kernel
theorem dXT_here_1 : decode cXT_here 1 = .ok (.getfield 19, 3) := by decide +kernel
theorem dXT_here_4 : decode cXT_here 4 = .ok (.aload_n 0, 1) := by decide +kernel
theorem dXT_here_5 : decode cXT_here 5 = .ok (.getfield 15, 3) := by decide +kernel
theorem dXT_here_8 : decode cXT_here 8 = .ok (.if_icmp .ge 15, 3) := by decide +kernel
theorem dXT_here_11 : decode cXT_here 11 = .ok (.aload_n 0, 1) := by decide +kernel
theorem dXT_here_12 : decode cXT_here 12 = .ok (.getfield 9, 3) := by decide +kernel
theorem dXT_here_15 : decode cXT_here 15 = .ok (.aload_n 0, 1) := by decide +kernel
theorem dXT_here_16 : decode cXT_here 16 = .ok (.getfield 19, 3) := by decide +kernel
theorem dXT_here_19 : decode cXT_here 19 = .ok (.iaload, 1) := by decide +kernel
theorem dXT_here_20 : decode cXT_here 20 = .ok (.goto 4, 3) := by decide +kernel
theorem dXT_here_23 : decode cXT_here 23 = .ok (.iconst (-1), 1) := by decide +kernel
theorem dXT_here_24 : decode cXT_here 24 = .ok (.ireturn, 1) := by decide +kernel
theorem dXB_tellTerm_0 : decode cXB_tellTerm 0 = .ok (.aload_n 0, 1) := by decide +kernel
theorem dXB_tellTerm_1 : decode cXB_tellTerm 1 = .ok (.getfield 30, 3) := by decide +kernel
theorem dXB_tellTerm_4 : decode cXB_tellTerm 4 = .ok (.iload_n 1, 1) := by decide +kernel
theorem dXB_tellTerm_5 : decode cXB_tellTerm 5 = .ok (.bipush 8, 2) := by decide +kernel
theorem dXB_tellTerm_7 : decode cXB_tellTerm 7 = .ok (.imul, 1) := by decide +kernel
theorem dXB_tellTerm_8 : decode cXB_tellTerm 8 = .ok (.iload_n 2, 1) := by decide +kernel
theorem dXB_tellTerm_9 : decode cXB_tellTerm 9 = .ok (.iadd, 1) := by decide +kernel
theorem dXB_tellTerm_10 : decode cXB_tellTerm 10 = .ok (.iload_n 3, 1) := by decide +kernel
theorem dXB_tellTerm_11 : decode cXB_tellTerm 11 = .ok (.iastore, 1) := by decide +kernel
theorem dXB_tellTerm_12 : decode cXB_tellTerm 12 = .ok (.return_, 1) := by decide +kernel
theorem dXR_grade_0 : decode cXR_grade 0 = .ok (.aload_n 0, 1) := by decide +kernel
theorem dXR_grade_1 : decode cXR_grade 1 = .ok (.getfield 9, 3) := by decide +kernel
theorem dXR_grade_4 : decode cXR_grade 4 = .ok (.iconst 1, 1) := by decide +kernel
theorem dXR_grade_5 : decode cXR_grade 5 = .ok (.bipush 30, 2) := by decide +kernel
theorem dXR_grade_7 : decode cXR_grade 7 = .ok (.invokevirtual 68, 3) := by decide +kernel
theorem dXR_grade_10 : decode cXR_grade 10 = .ok (.istore_n 2, 1) := by decide +kernel
theorem dXR_grade_11 : decode cXR_grade 11 = .ok (.iload_n 2, 1) := by decide +kernel
theorem dXR_grade_12 : decode cXR_grade 12 = .ok (.iconst (-1), 1) := by decide +kernel
theorem dXR_grade_13 : decode cXR_grade 13 = .ok (.if_icmp .ne 5, 3) := by decide +kernel
theorem dXR_grade_16 : decode cXR_grade 16 = .ok (.iconst 0, 1) := by decide +kernel
theorem dXR_grade_17 : decode cXR_grade 17 = .ok (.ireturn, 1) := by decide +kernel
theorem dXR_grade_18 : decode cXR_grade 18 = .ok (.aload_n 1, 1) := by decide +kernel
theorem dXR_grade_19 : decode cXR_grade 19 = .ok (.iload_n 2, 1) := by decide +kernel
theorem dXR_grade_20 : decode cXR_grade 20 = .ok (.invokevirtual 75, 3) := by decide +kernel
theorem dXR_grade_23 : decode cXR_grade 23 = .ok (.ifCond .eq 11, 3) := by decide +kernel
theorem dXR_grade_26 : decode cXR_grade 26 = .ok (.aload_n 0, 1) := by decide +kernel
theorem dXR_grade_27 : decode cXR_grade 27 = .ok (.getfield 9, 3) := by decide +kernel
theorem dXR_grade_30 : decode cXR_grade 30 = .ok (.invokevirtual 54, 3) := by decide +kernel
theorem dXR_grade_33 : decode cXR_grade 33 = .ok (.ireturn, 1) := by decide +kernel
theorem dXR_grade_34 : decode cXR_grade 34 = .ok (.aload_n 1, 1) := by decide +kernel
theorem dXR_grade_35 : decode cXR_grade 35 = .ok (.iload_n 2, 1) := by decide +kernel
theorem dXR_grade_36 : decode cXR_grade 36 = .ok (.invokevirtual 78, 3) := by decide +kernel
theorem dXR_grade_39 : decode cXR_grade 39 = .ok (.aload_n 0, 1) := by decide +kernel
theorem dXR_grade_40 : decode cXR_grade 40 = .ok (.aload_n 1, 1) := by decide +kernel
theorem dXR_grade_41 : decode cXR_grade 41 = .ok (.iload_n 2, 1) := by decide +kernel
theorem dXR_grade_42 : decode cXR_grade 42 = .ok (.invokevirtual 81, 3) := by decide +kernel
theorem dXR_grade_45 : decode cXR_grade 45 = .ok (.ifCond .eq 34, 3) := by decide +kernel
theorem dXR_grade_48 : decode cXR_grade 48 = .ok (.aload_n 0, 1) := by decide +kernel
theorem dXR_grade_49 : decode cXR_grade 49 = .ok (.aload_n 1, 1) := by decide +kernel
theorem dXR_grade_50 : decode cXR_grade 50 = .ok (.iload_n 2, 1) := by decide +kernel
theorem dXR_grade_51 : decode cXR_grade 51 = .ok (.invokevirtual 84, 3) := by decide +kernel
theorem dXR_grade_54 : decode cXR_grade 54 = .ok (.ifCond .eq 25, 3) := by decide +kernel
theorem dXR_grade_57 : decode cXR_grade 57 = .ok (.aload_n 0, 1) := by decide +kernel
theorem dXR_grade_58 : decode cXR_grade 58 = .ok (.aload_n 1, 1) := by decide +kernel
theorem dXR_grade_59 : decode cXR_grade 59 = .ok (.iload_n 2, 1) := by decide +kernel
theorem dXR_grade_60 : decode cXR_grade 60 = .ok (.invokevirtual 87, 3) := by decide +kernel
theorem dXR_grade_63 : decode cXR_grade 63 = .ok (.ifCond .eq 16, 3) := by decide +kernel
theorem dXR_grade_66 : decode cXR_grade 66 = .ok (.aload_n 0, 1) := by decide +kernel
theorem dXR_grade_67 : decode cXR_grade 67 = .ok (.aload_n 1, 1) := by decide +kernel
theorem dXR_grade_68 : decode cXR_grade 68 = .ok (.iload_n 2, 1) := by decide +kernel
theorem dXR_grade_69 : decode cXR_grade 69 = .ok (.invokevirtual 90, 3) := by decide +kernel
theorem dXR_grade_72 : decode cXR_grade 72 = .ok (.ifCond .eq 7, 3) := by decide +kernel
theorem dXR_grade_75 : decode cXR_grade 75 = .ok (.iconst 1, 1) := by decide +kernel
theorem dXR_grade_76 : decode cXR_grade 76 = .ok (.goto 4, 3) := by decide +kernel
theorem dXR_grade_79 : decode cXR_grade 79 = .ok (.iconst 0, 1) := by decide +kernel
theorem dXR_grade_80 : decode cXR_grade 80 = .ok (.ireturn, 1) := by decide +kernel
theorem dXB_knows_0 : decode cXB_knows 0 = .ok (.iload_n 1, 1) := by decide +kernel
theorem dXB_knows_1 : decode cXB_knows 1 = .ok (.iconst 1, 1) := by decide +kernel
theorem dXB_knows_2 : decode cXB_knows 2 = .ok (.if_icmp .lt 24, 3) := by decide +kernel
theorem dXB_knows_5 : decode cXB_knows 5 = .ok (.iload_n 1, 1) := by decide +kernel
theorem dXB_knows_6 : decode cXB_knows 6 = .ok (.bipush 30, 2) := by decide +kernel
theorem dXB_knows_8 : decode cXB_knows 8 = .ok (.if_icmp .gt 18, 3) := by decide +kernel
theorem dXB_knows_11 : decode cXB_knows 11 = .ok (.aload_n 0, 1) := by decide +kernel
theorem dXB_knows_12 : decode cXB_knows 12 = .ok (.getfield 33, 3) := by decide +kernel
theorem dXB_knows_15 : decode cXB_knows 15 = .ok (.iload_n 1, 1) := by decide +kernel
theorem dXB_knows_16 : decode cXB_knows 16 = .ok (.invokestatic 52, 3) := by decide +kernel
theorem dXB_knows_19 : decode cXB_knows 19 = .ok (.ifCond .eq 7, 3) := by decide +kernel
theorem dXB_knows_22 : decode cXB_knows 22 = .ok (.iconst 1, 1) := by decide +kernel
theorem dXB_knows_23 : decode cXB_knows 23 = .ok (.goto 4, 3) := by decide +kernel
theorem dXB_knows_26 : decode cXB_knows 26 = .ok (.iconst 0, 1) := by decide +kernel
theorem dXB_knows_27 : decode cXB_knows 27 = .ok (.ireturn, 1) := by decide +kernel
theorem dXB_tellGrade_0 : decode cXB_tellGrade 0 = .ok (.aload_n 0, 1) := by decide +kernel
theorem dXB_tellGrade_1 : decode cXB_tellGrade 1 = .ok (.dup, 1) := by decide +kernel
theorem dXB_tellGrade_2 : decode cXB_tellGrade 2 = .ok (.getfield 33, 3) := by decide +kernel
theorem dXB_tellGrade_5 : decode cXB_tellGrade 5 = .ok (.iconst 1, 1) := by decide +kernel
theorem dXB_tellGrade_6 : decode cXB_tellGrade 6 = .ok (.iload_n 1, 1) := by decide +kernel
theorem dXB_tellGrade_7 : decode cXB_tellGrade 7 = .ok (.ishl, 1) := by decide +kernel
theorem dXB_tellGrade_8 : decode cXB_tellGrade 8 = .ok (.ior, 1) := by decide +kernel
theorem dXB_tellGrade_9 : decode cXB_tellGrade 9 = .ok (.putfield 33, 3) := by decide +kernel
theorem dXB_tellGrade_12 : decode cXB_tellGrade 12 = .ok (.return_, 1) := by decide +kernel
theorem dXR_parent_0 : decode cXR_parent 0 = .ok (.aload_n 0, 1) := by decide +kernel
theorem dXR_parent_1 : decode cXR_parent 1 = .ok (.getfield 9, 3) := by decide +kernel
theorem dXR_parent_4 : decode cXR_parent 4 = .ok (.bipush 60, 2) := by decide +kernel
theorem dXR_parent_6 : decode cXR_parent 6 = .ok (.invokevirtual 28, 3) := by decide +kernel
theorem dXR_parent_9 : decode cXR_parent 9 = .ok (.ifCond .ne 5, 3) := by decide +kernel
theorem dXR_parent_12 : decode cXR_parent 12 = .ok (.iconst 1, 1) := by decide +kernel
theorem dXR_parent_13 : decode cXR_parent 13 = .ok (.ireturn, 1) := by decide +kernel
theorem dXR_parent_14 : decode cXR_parent 14 = .ok (.aload_n 0, 1) := by decide +kernel
theorem dXR_parent_15 : decode cXR_parent 15 = .ok (.getfield 9, 3) := by decide +kernel
theorem dXR_parent_18 : decode cXR_parent 18 = .ok (.iconst 1, 1) := by decide +kernel
theorem dXR_parent_19 : decode cXR_parent 19 = .ok (.bipush 30, 2) := by decide +kernel
theorem dXR_parent_21 : decode cXR_parent 21 = .ok (.invokevirtual 68, 3) := by decide +kernel
theorem dXR_parent_24 : decode cXR_parent 24 = .ok (.istore_n 3, 1) := by decide +kernel
theorem dXR_parent_25 : decode cXR_parent 25 = .ok (.iload_n 3, 1) := by decide +kernel
theorem dXR_parent_26 : decode cXR_parent 26 = .ok (.iconst (-1), 1) := by decide +kernel
theorem dXR_parent_27 : decode cXR_parent 27 = .ok (.if_icmp .ne 5, 3) := by decide +kernel
theorem dXR_parent_30 : decode cXR_parent 30 = .ok (.iconst 0, 1) := by decide +kernel
theorem dXR_parent_31 : decode cXR_parent 31 = .ok (.ireturn, 1) := by decide +kernel
theorem dXR_parent_32 : decode cXR_parent 32 = .ok (.aload_n 1, 1) := by decide +kernel
theorem dXR_parent_33 : decode cXR_parent 33 = .ok (.iload_n 2, 1) := by decide +kernel
theorem dXR_parent_34 : decode cXR_parent 34 = .ok (.iload_n 3, 1) := by decide +kernel
theorem dXR_parent_35 : decode cXR_parent 35 = .ok (.invokevirtual 93, 3) := by decide +kernel
theorem dXR_parent_38 : decode cXR_parent 38 = .ok (.iconst 1, 1) := by decide +kernel
theorem dXR_parent_39 : decode cXR_parent 39 = .ok (.ireturn, 1) := by decide +kernel
theorem dXB_tellParent_0 : decode cXB_tellParent 0 = .ok (.aload_n 0, 1) := by decide +kernel
theorem dXB_tellParent_1 : decode cXB_tellParent 1 = .ok (.getfield 9, 3) := by decide +kernel
theorem dXB_tellParent_4 : decode cXB_tellParent 4 = .ok (.iload_n 1, 1) := by decide +kernel
theorem dXB_tellParent_5 : decode cXB_tellParent 5 = .ok (.iload_n 2, 1) := by decide +kernel
theorem dXB_tellParent_6 : decode cXB_tellParent 6 = .ok (.iastore, 1) := by decide +kernel
theorem dXB_tellParent_7 : decode cXB_tellParent 7 = .ok (.return_, 1) := by decide +kernel
theorem dXR_spans_0 : decode cXR_spans 0 = .ok (.iconst 0, 1) := by decide +kernel
theorem dXR_spans_1 : decode cXR_spans 1 = .ok (.istore_n 3, 1) := by decide +kernel
theorem dXR_spans_2 : decode cXR_spans 2 = .ok (.iload_n 3, 1) := by decide +kernel
theorem dXR_spans_3 : decode cXR_spans 3 = .ok (.bipush 8, 2) := by decide +kernel
theorem dXR_spans_5 : decode cXR_spans 5 = .ok (.if_icmp .gt 125, 3) := by decide +kernel
theorem dXR_spans_8 : decode cXR_spans 8 = .ok (.aload_n 0, 1) := by decide +kernel
theorem dXR_spans_9 : decode cXR_spans 9 = .ok (.getfield 9, 3) := by decide +kernel
theorem dXR_spans_12 : decode cXR_spans 12 = .ok (.invokevirtual 20, 3) := by decide +kernel
theorem dXR_spans_15 : decode cXR_spans 15 = .ok (.invokestatic 97, 3) := by decide +kernel
theorem dXR_spans_18 : decode cXR_spans 18 = .ok (.ifCond .eq 112, 3) := by decide +kernel
theorem dXR_spans_21 : decode cXR_spans 21 = .ok (.aload_n 0, 1) := by decide +kernel
theorem dXR_spans_22 : decode cXR_spans 22 = .ok (.getfield 9, 3) := by decide +kernel
theorem dXR_spans_25 : decode cXR_spans 25 = .ok (.bipush 65, 2) := by decide +kernel
theorem dXR_spans_27 : decode cXR_spans 27 = .ok (.bipush 8, 2) := by decide +kernel
theorem dXR_spans_29 : decode cXR_spans 29 = .ok (.invokevirtual 45, 3) := by decide +kernel
theorem dXR_spans_32 : decode cXR_spans 32 = .ok (.istore 4, 2) := by decide +kernel
theorem dXR_spans_34 : decode cXR_spans 34 = .ok (.iload 4, 2) := by decide +kernel
theorem dXR_spans_36 : decode cXR_spans 36 = .ok (.iconst (-1), 1) := by decide +kernel
theorem dXR_spans_37 : decode cXR_spans 37 = .ok (.if_icmp .ne 5, 3) := by decide +kernel
theorem dXR_spans_40 : decode cXR_spans 40 = .ok (.iconst 0, 1) := by decide +kernel
theorem dXR_spans_41 : decode cXR_spans 41 = .ok (.ireturn, 1) := by decide +kernel
end
section
theorem dXR_spans_42 : decode cXR_spans 42 = .ok (.aload_n 1, 1) := by decide +kernel
theorem dXR_spans_43 : decode cXR_spans 43 = .ok (.iload_n 2, 1) := by decide +kernel
theorem dXR_spans_44 : decode cXR_spans 44 = .ok (.iload 4, 2) := by decide +kernel
theorem dXR_spans_46 : decode cXR_spans 46 = .ok (.invokevirtual 100, 3) := by decide +kernel
theorem dXR_spans_49 : decode cXR_spans 49 = .ok (.ifCond .eq 11, 3) := by decide +kernel
theorem dXR_spans_52 : decode cXR_spans 52 = .ok (.aload_n 0, 1) := by decide +kernel
theorem dXR_spans_53 : decode cXR_spans 53 = .ok (.getfield 9, 3) := by decide +kernel
theorem dXR_spans_56 : decode cXR_spans 56 = .ok (.invokevirtual 54, 3) := by decide +kernel
theorem dXR_spans_59 : decode cXR_spans 59 = .ok (.ireturn, 1) := by decide +kernel
theorem dXR_spans_60 : decode cXR_spans 60 = .ok (.aload_n 0, 1) := by decide +kernel
theorem dXR_spans_61 : decode cXR_spans 61 = .ok (.getfield 9, 3) := by decide +kernel
theorem dXR_spans_64 : decode cXR_spans 64 = .ok (.iconst 0, 1) := by decide +kernel
theorem dXR_spans_65 : decode cXR_spans 65 = .ok (.ldc 104, 2) := by decide +kernel
theorem dXR_spans_67 : decode cXR_spans 67 = .ok (.invokevirtual 68, 3) := by decide +kernel
theorem dXR_spans_70 : decode cXR_spans 70 = .ok (.istore 5, 2) := by decide +kernel
theorem dXR_spans_72 : decode cXR_spans 72 = .ok (.iload 5, 2) := by decide +kernel
theorem dXR_spans_74 : decode cXR_spans 74 = .ok (.iconst (-1), 1) := by decide +kernel
theorem dXR_spans_75 : decode cXR_spans 75 = .ok (.if_icmp .eq 15, 3) := by decide +kernel
theorem dXR_spans_78 : decode cXR_spans 78 = .ok (.aload_n 0, 1) := by decide +kernel
theorem dXR_spans_79 : decode cXR_spans 79 = .ok (.getfield 9, 3) := by decide +kernel
theorem dXR_spans_82 : decode cXR_spans 82 = .ok (.bipush 45, 2) := by decide +kernel
theorem dXR_spans_84 : decode cXR_spans 84 = .ok (.invokevirtual 35, 3) := by decide +kernel
theorem dXR_spans_87 : decode cXR_spans 87 = .ok (.ifCond .ne 5, 3) := by decide +kernel
theorem dXR_spans_90 : decode cXR_spans 90 = .ok (.iconst 0, 1) := by decide +kernel
theorem dXR_spans_91 : decode cXR_spans 91 = .ok (.ireturn, 1) := by decide +kernel
theorem dXR_spans_92 : decode cXR_spans 92 = .ok (.aload_n 0, 1) := by decide +kernel
theorem dXR_spans_93 : decode cXR_spans 93 = .ok (.getfield 9, 3) := by decide +kernel
theorem dXR_spans_96 : decode cXR_spans 96 = .ok (.iload 5, 2) := by decide +kernel
theorem dXR_spans_98 : decode cXR_spans 98 = .ok (.ldc 104, 2) := by decide +kernel
theorem dXR_spans_100 : decode cXR_spans 100 = .ok (.invokevirtual 68, 3) := by decide +kernel
theorem dXR_spans_103 : decode cXR_spans 103 = .ok (.istore 6, 2) := by decide +kernel
theorem dXR_spans_105 : decode cXR_spans 105 = .ok (.iload 6, 2) := by decide +kernel
theorem dXR_spans_107 : decode cXR_spans 107 = .ok (.iconst (-1), 1) := by decide +kernel
theorem dXR_spans_108 : decode cXR_spans 108 = .ok (.if_icmp .ne 5, 3) := by decide +kernel
theorem dXR_spans_111 : decode cXR_spans 111 = .ok (.iconst 0, 1) := by decide +kernel
theorem dXR_spans_112 : decode cXR_spans 112 = .ok (.ireturn, 1) := by decide +kernel
theorem dXR_spans_113 : decode cXR_spans 113 = .ok (.aload_n 1, 1) := by decide +kernel
theorem dXR_spans_114 : decode cXR_spans 114 = .ok (.iload_n 2, 1) := by decide +kernel
theorem dXR_spans_115 : decode cXR_spans 115 = .ok (.iload 4, 2) := by decide +kernel
theorem dXR_spans_117 : decode cXR_spans 117 = .ok (.iload 5, 2) := by decide +kernel
theorem dXR_spans_119 : decode cXR_spans 119 = .ok (.iload 6, 2) := by decide +kernel
theorem dXR_spans_121 : decode cXR_spans 121 = .ok (.invokevirtual 105, 3) := by decide +kernel
theorem dXR_spans_124 : decode cXR_spans 124 = .ok (.iinc 3 1, 3) := by decide +kernel
theorem dXR_spans_127 : decode cXR_spans 127 = .ok (.goto (-125), 3) := by decide +kernel
theorem dXR_spans_130 : decode cXR_spans 130 = .ok (.iconst 1, 1) := by decide +kernel
theorem dXR_spans_131 : decode cXR_spans 131 = .ok (.ireturn, 1) := by decide +kernel
theorem dXG_isElement_0 : decode cXG_isElement 0 = .ok (.iload_n 0, 1) := by decide +kernel
theorem dXG_isElement_1 : decode cXG_isElement 1 = .ok (.bipush 65, 2) := by decide +kernel
theorem dXG_isElement_3 : decode cXG_isElement 3 = .ok (.if_icmp .lt 13, 3) := by decide +kernel
theorem dXG_isElement_6 : decode cXG_isElement 6 = .ok (.iload_n 0, 1) := by decide +kernel
theorem dXG_isElement_7 : decode cXG_isElement 7 = .ok (.bipush 73, 2) := by decide +kernel
theorem dXG_isElement_9 : decode cXG_isElement 9 = .ok (.if_icmp .ge 7, 3) := by decide +kernel
theorem dXG_isElement_12 : decode cXG_isElement 12 = .ok (.iconst 1, 1) := by decide +kernel
theorem dXG_isElement_13 : decode cXG_isElement 13 = .ok (.goto 4, 3) := by decide +kernel
theorem dXG_isElement_16 : decode cXG_isElement 16 = .ok (.iconst 0, 1) := by decide +kernel
theorem dXG_isElement_17 : decode cXG_isElement 17 = .ok (.ireturn, 1) := by decide +kernel
theorem dXB_tellsSpan_0 : decode cXB_tellsSpan 0 = .ok (.aload_n 0, 1) := by decide +kernel
theorem dXB_tellsSpan_1 : decode cXB_tellsSpan 1 = .ok (.getfield 21, 3) := by decide +kernel
theorem dXB_tellsSpan_4 : decode cXB_tellsSpan 4 = .ok (.iload_n 1, 1) := by decide +kernel
theorem dXB_tellsSpan_5 : decode cXB_tellsSpan 5 = .ok (.bipush 8, 2) := by decide +kernel
theorem dXB_tellsSpan_7 : decode cXB_tellsSpan 7 = .ok (.imul, 1) := by decide +kernel
theorem dXB_tellsSpan_8 : decode cXB_tellsSpan 8 = .ok (.iload_n 2, 1) := by decide +kernel
theorem dXB_tellsSpan_9 : decode cXB_tellsSpan 9 = .ok (.iadd, 1) := by decide +kernel
theorem dXB_tellsSpan_10 : decode cXB_tellsSpan 10 = .ok (.iaload, 1) := by decide +kernel
theorem dXB_tellsSpan_11 : decode cXB_tellsSpan 11 = .ok (.iconst (-1), 1) := by decide +kernel
theorem dXB_tellsSpan_12 : decode cXB_tellsSpan 12 = .ok (.if_icmp .eq 7, 3) := by decide +kernel
theorem dXB_tellsSpan_15 : decode cXB_tellsSpan 15 = .ok (.iconst 1, 1) := by decide +kernel
theorem dXB_tellsSpan_16 : decode cXB_tellsSpan 16 = .ok (.goto 4, 3) := by decide +kernel
theorem dXB_tellsSpan_19 : decode cXB_tellsSpan 19 = .ok (.iconst 0, 1) := by decide +kernel
theorem dXB_tellsSpan_20 : decode cXB_tellsSpan 20 = .ok (.ireturn, 1) := by decide +kernel
theorem dXB_tellSpan_0 : decode cXB_tellSpan 0 = .ok (.aload_n 0, 1) := by decide +kernel
theorem dXB_tellSpan_1 : decode cXB_tellSpan 1 = .ok (.getfield 18, 3) := by decide +kernel
theorem dXB_tellSpan_4 : decode cXB_tellSpan 4 = .ok (.iload_n 1, 1) := by decide +kernel
theorem dXB_tellSpan_5 : decode cXB_tellSpan 5 = .ok (.bipush 8, 2) := by decide +kernel
theorem dXB_tellSpan_7 : decode cXB_tellSpan 7 = .ok (.imul, 1) := by decide +kernel
theorem dXB_tellSpan_8 : decode cXB_tellSpan 8 = .ok (.iload_n 2, 1) := by decide +kernel
theorem dXB_tellSpan_9 : decode cXB_tellSpan 9 = .ok (.iadd, 1) := by decide +kernel
theorem dXB_tellSpan_10 : decode cXB_tellSpan 10 = .ok (.iload_n 3, 1) := by decide +kernel
theorem dXB_tellSpan_11 : decode cXB_tellSpan 11 = .ok (.iastore, 1) := by decide +kernel
theorem dXB_tellSpan_12 : decode cXB_tellSpan 12 = .ok (.aload_n 0, 1) := by decide +kernel
theorem dXB_tellSpan_13 : decode cXB_tellSpan 13 = .ok (.getfield 21, 3) := by decide +kernel
theorem dXB_tellSpan_16 : decode cXB_tellSpan 16 = .ok (.iload_n 1, 1) := by decide +kernel
theorem dXB_tellSpan_17 : decode cXB_tellSpan 17 = .ok (.bipush 8, 2) := by decide +kernel
theorem dXB_tellSpan_19 : decode cXB_tellSpan 19 = .ok (.imul, 1) := by decide +kernel
theorem dXB_tellSpan_20 : decode cXB_tellSpan 20 = .ok (.iload_n 2, 1) := by decide +kernel
theorem dXB_tellSpan_21 : decode cXB_tellSpan 21 = .ok (.iadd, 1) := by decide +kernel
theorem dXB_tellSpan_22 : decode cXB_tellSpan 22 = .ok (.iload 4, 2) := by decide +kernel
theorem dXB_tellSpan_24 : decode cXB_tellSpan 24 = .ok (.iastore, 1) := by decide +kernel
theorem dXB_tellSpan_25 : decode cXB_tellSpan 25 = .ok (.return_, 1) := by decide +kernel
theorem dXR_routes_0 : decode cXR_routes 0 = .ok (.aload_n 0, 1) := by decide +kernel
theorem dXR_routes_1 : decode cXR_routes 1 = .ok (.getfield 9, 3) := by decide +kernel
theorem dXR_routes_4 : decode cXR_routes 4 = .ok (.bipush 114, 2) := by decide +kernel
theorem dXR_routes_6 : decode cXR_routes 6 = .ok (.invokevirtual 28, 3) := by decide +kernel
theorem dXR_routes_9 : decode cXR_routes 9 = .ok (.ifCond .ne 5, 3) := by decide +kernel
theorem dXR_routes_12 : decode cXR_routes 12 = .ok (.iconst 1, 1) := by decide +kernel
theorem dXR_routes_13 : decode cXR_routes 13 = .ok (.ireturn, 1) := by decide +kernel
theorem dXR_routes_14 : decode cXR_routes 14 = .ok (.iconst (-1), 1) := by decide +kernel
theorem dXR_routes_15 : decode cXR_routes 15 = .ok (.istore_n 3, 1) := by decide +kernel
theorem dXR_routes_16 : decode cXR_routes 16 = .ok (.iconst 0, 1) := by decide +kernel
theorem dXR_routes_17 : decode cXR_routes 17 = .ok (.istore 4, 2) := by decide +kernel
theorem dXR_routes_19 : decode cXR_routes 19 = .ok (.iload 4, 2) := by decide +kernel
theorem dXR_routes_21 : decode cXR_routes 21 = .ok (.iconst 4, 1) := by decide +kernel
theorem dXR_routes_22 : decode cXR_routes 22 = .ok (.if_icmp .ge 74, 3) := by decide +kernel
theorem dXR_routes_25 : decode cXR_routes 25 = .ok (.iload 4, 2) := by decide +kernel
theorem dXR_routes_27 : decode cXR_routes 27 = .ok (.ifCond .le 18, 3) := by decide +kernel
theorem dXR_routes_30 : decode cXR_routes 30 = .ok (.aload_n 0, 1) := by decide +kernel
theorem dXR_routes_31 : decode cXR_routes 31 = .ok (.getfield 9, 3) := by decide +kernel
theorem dXR_routes_34 : decode cXR_routes 34 = .ok (.invokevirtual 20, 3) := by decide +kernel
theorem dXR_routes_37 : decode cXR_routes 37 = .ok (.invokestatic 109, 3) := by decide +kernel
theorem dXR_routes_40 : decode cXR_routes 40 = .ok (.ifCond .ne 5, 3) := by decide +kernel
theorem dXR_routes_43 : decode cXR_routes 43 = .ok (.iconst 1, 1) := by decide +kernel
theorem dXR_routes_44 : decode cXR_routes 44 = .ok (.ireturn, 1) := by decide +kernel
theorem dXR_routes_45 : decode cXR_routes 45 = .ok (.aload_n 0, 1) := by decide +kernel
theorem dXR_routes_46 : decode cXR_routes 46 = .ok (.getfield 9, 3) := by decide +kernel
theorem dXR_routes_49 : decode cXR_routes 49 = .ok (.bipush 48, 2) := by decide +kernel
theorem dXR_routes_51 : decode cXR_routes 51 = .ok (.bipush 8, 2) := by decide +kernel
theorem dXR_routes_53 : decode cXR_routes 53 = .ok (.invokevirtual 45, 3) := by decide +kernel
theorem dXR_routes_56 : decode cXR_routes 56 = .ok (.istore 5, 2) := by decide +kernel
theorem dXR_routes_58 : decode cXR_routes 58 = .ok (.iload 5, 2) := by decide +kernel
theorem dXR_routes_60 : decode cXR_routes 60 = .ok (.iconst (-1), 1) := by decide +kernel
theorem dXR_routes_61 : decode cXR_routes 61 = .ok (.if_icmp .ne 5, 3) := by decide +kernel
theorem dXR_routes_64 : decode cXR_routes 64 = .ok (.iconst 0, 1) := by decide +kernel
theorem dXR_routes_65 : decode cXR_routes 65 = .ok (.ireturn, 1) := by decide +kernel
theorem dXR_routes_66 : decode cXR_routes 66 = .ok (.iload 5, 2) := by decide +kernel
theorem dXR_routes_68 : decode cXR_routes 68 = .ok (.iload_n 3, 1) := by decide +kernel
theorem dXR_routes_69 : decode cXR_routes 69 = .ok (.if_icmp .gt 11, 3) := by decide +kernel
theorem dXR_routes_72 : decode cXR_routes 72 = .ok (.aload_n 0, 1) := by decide +kernel
theorem dXR_routes_73 : decode cXR_routes 73 = .ok (.getfield 9, 3) := by decide +kernel
theorem dXR_routes_76 : decode cXR_routes 76 = .ok (.invokevirtual 54, 3) := by decide +kernel
theorem dXR_routes_79 : decode cXR_routes 79 = .ok (.ireturn, 1) := by decide +kernel
theorem dXR_routes_80 : decode cXR_routes 80 = .ok (.aload_n 1, 1) := by decide +kernel
theorem dXR_routes_81 : decode cXR_routes 81 = .ok (.iload_n 2, 1) := by decide +kernel
theorem dXR_routes_82 : decode cXR_routes 82 = .ok (.iload 5, 2) := by decide +kernel
theorem dXR_routes_84 : decode cXR_routes 84 = .ok (.invokevirtual 112, 3) := by decide +kernel
theorem dXR_routes_87 : decode cXR_routes 87 = .ok (.iload 5, 2) := by decide +kernel
theorem dXR_routes_89 : decode cXR_routes 89 = .ok (.istore_n 3, 1) := by decide +kernel
theorem dXR_routes_90 : decode cXR_routes 90 = .ok (.iinc 4 1, 3) := by decide +kernel
theorem dXR_routes_93 : decode cXR_routes 93 = .ok (.goto (-74), 3) := by decide +kernel
theorem dXR_routes_96 : decode cXR_routes 96 = .ok (.iconst 1, 1) := by decide +kernel
theorem dXR_routes_97 : decode cXR_routes 97 = .ok (.ireturn, 1) := by decide +kernel
theorem dXB_tellRoute_0 : decode cXB_tellRoute 0 = .ok (.aload_n 0, 1) := by decide +kernel
theorem dXB_tellRoute_1 : decode cXB_tellRoute 1 = .ok (.getfield 27, 3) := by decide +kernel
theorem dXB_tellRoute_4 : decode cXB_tellRoute 4 = .ok (.iload_n 1, 1) := by decide +kernel
theorem dXB_tellRoute_5 : decode cXB_tellRoute 5 = .ok (.dup2, 1) := by decide +kernel
theorem dXB_tellRoute_6 : decode cXB_tellRoute 6 = .ok (.iaload, 1) := by decide +kernel
theorem dXB_tellRoute_7 : decode cXB_tellRoute 7 = .ok (.iconst 1, 1) := by decide +kernel
theorem dXB_tellRoute_8 : decode cXB_tellRoute 8 = .ok (.iload_n 2, 1) := by decide +kernel
theorem dXB_tellRoute_9 : decode cXB_tellRoute 9 = .ok (.ishl, 1) := by decide +kernel
theorem dXB_tellRoute_10 : decode cXB_tellRoute 10 = .ok (.ior, 1) := by decide +kernel
theorem dXB_tellRoute_11 : decode cXB_tellRoute 11 = .ok (.iastore, 1) := by decide +kernel
theorem dXB_tellRoute_12 : decode cXB_tellRoute 12 = .ok (.return_, 1) := by decide +kernel
theorem dXR_limits_0 : decode cXR_limits 0 = .ok (.iconst 0, 1) := by decide +kernel
theorem dXR_limits_1 : decode cXR_limits 1 = .ok (.istore_n 3, 1) := by decide +kernel
theorem dXR_limits_2 : decode cXR_limits 2 = .ok (.iload_n 3, 1) := by decide +kernel
theorem dXR_limits_3 : decode cXR_limits 3 = .ok (.iconst 4, 1) := by decide +kernel
theorem dXR_limits_4 : decode cXR_limits 4 = .ok (.if_icmp .gt 102, 3) := by decide +kernel
theorem dXR_limits_7 : decode cXR_limits 7 = .ok (.aload_n 0, 1) := by decide +kernel
theorem dXR_limits_8 : decode cXR_limits 8 = .ok (.getfield 9, 3) := by decide +kernel
theorem dXR_limits_11 : decode cXR_limits 11 = .ok (.bipush 113, 2) := by decide +kernel
theorem dXR_limits_13 : decode cXR_limits 13 = .ok (.invokevirtual 28, 3) := by decide +kernel
theorem dXR_limits_16 : decode cXR_limits 16 = .ok (.ifCond .eq 90, 3) := by decide +kernel
theorem dXR_limits_19 : decode cXR_limits 19 = .ok (.aload_n 0, 1) := by decide +kernel
theorem dXR_limits_20 : decode cXR_limits 20 = .ok (.getfield 9, 3) := by decide +kernel
theorem dXR_limits_23 : decode cXR_limits 23 = .ok (.bipush 48, 2) := by decide +kernel
theorem dXR_limits_25 : decode cXR_limits 25 = .ok (.iconst 4, 1) := by decide +kernel
theorem dXR_limits_26 : decode cXR_limits 26 = .ok (.invokevirtual 45, 3) := by decide +kernel
theorem dXR_limits_29 : decode cXR_limits 29 = .ok (.istore 4, 2) := by decide +kernel
theorem dXR_limits_31 : decode cXR_limits 31 = .ok (.iload 4, 2) := by decide +kernel
theorem dXR_limits_33 : decode cXR_limits 33 = .ok (.iconst (-1), 1) := by decide +kernel
theorem dXR_limits_34 : decode cXR_limits 34 = .ok (.if_icmp .ne 5, 3) := by decide +kernel
theorem dXR_limits_37 : decode cXR_limits 37 = .ok (.iconst 0, 1) := by decide +kernel
theorem dXR_limits_38 : decode cXR_limits 38 = .ok (.ireturn, 1) := by decide +kernel
theorem dXR_limits_39 : decode cXR_limits 39 = .ok (.aload_n 1, 1) := by decide +kernel
theorem dXR_limits_40 : decode cXR_limits 40 = .ok (.iload_n 2, 1) := by decide +kernel
theorem dXR_limits_41 : decode cXR_limits 41 = .ok (.iload 4, 2) := by decide +kernel
theorem dXR_limits_43 : decode cXR_limits 43 = .ok (.invokevirtual 115, 3) := by decide +kernel
theorem dXR_limits_46 : decode cXR_limits 46 = .ok (.ifCond .eq 11, 3) := by decide +kernel
theorem dXR_limits_49 : decode cXR_limits 49 = .ok (.aload_n 0, 1) := by decide +kernel
theorem dXR_limits_50 : decode cXR_limits 50 = .ok (.getfield 9, 3) := by decide +kernel
theorem dXR_limits_53 : decode cXR_limits 53 = .ok (.invokevirtual 54, 3) := by decide +kernel
theorem dXR_limits_56 : decode cXR_limits 56 = .ok (.ireturn, 1) := by decide +kernel
theorem dXR_limits_57 : decode cXR_limits 57 = .ok (.aload_n 0, 1) := by decide +kernel
theorem dXR_limits_58 : decode cXR_limits 58 = .ok (.getfield 9, 3) := by decide +kernel
theorem dXR_limits_61 : decode cXR_limits 61 = .ok (.bipush 60, 2) := by decide +kernel
theorem dXR_limits_63 : decode cXR_limits 63 = .ok (.invokevirtual 35, 3) := by decide +kernel
theorem dXR_limits_66 : decode cXR_limits 66 = .ok (.ifCond .ne 5, 3) := by decide +kernel
theorem dXR_limits_69 : decode cXR_limits 69 = .ok (.iconst 0, 1) := by decide +kernel
theorem dXR_limits_70 : decode cXR_limits 70 = .ok (.ireturn, 1) := by decide +kernel
theorem dXR_limits_71 : decode cXR_limits 71 = .ok (.aload_n 0, 1) := by decide +kernel
theorem dXR_limits_72 : decode cXR_limits 72 = .ok (.getfield 9, 3) := by decide +kernel
theorem dXR_limits_75 : decode cXR_limits 75 = .ok (.iconst 0, 1) := by decide +kernel
theorem dXR_limits_76 : decode cXR_limits 76 = .ok (.ldc 118, 2) := by decide +kernel
theorem dXR_limits_78 : decode cXR_limits 78 = .ok (.invokevirtual 68, 3) := by decide +kernel
theorem dXR_limits_81 : decode cXR_limits 81 = .ok (.istore 5, 2) := by decide +kernel
theorem dXR_limits_83 : decode cXR_limits 83 = .ok (.iload 5, 2) := by decide +kernel
theorem dXR_limits_85 : decode cXR_limits 85 = .ok (.iconst (-1), 1) := by decide +kernel
theorem dXR_limits_86 : decode cXR_limits 86 = .ok (.if_icmp .ne 5, 3) := by decide +kernel
theorem dXR_limits_89 : decode cXR_limits 89 = .ok (.iconst 0, 1) := by decide +kernel
theorem dXR_limits_90 : decode cXR_limits 90 = .ok (.ireturn, 1) := by decide +kernel
theorem dXR_limits_91 : decode cXR_limits 91 = .ok (.aload_n 1, 1) := by decide +kernel
theorem dXR_limits_92 : decode cXR_limits 92 = .ok (.iload_n 2, 1) := by decide +kernel
theorem dXR_limits_93 : decode cXR_limits 93 = .ok (.iload 4, 2) := by decide +kernel
theorem dXR_limits_95 : decode cXR_limits 95 = .ok (.iload 5, 2) := by decide +kernel
theorem dXR_limits_97 : decode cXR_limits 97 = .ok (.invokevirtual 119, 3) := by decide +kernel
theorem dXR_limits_100 : decode cXR_limits 100 = .ok (.iinc 3 1, 3) := by decide +kernel
theorem dXR_limits_103 : decode cXR_limits 103 = .ok (.goto (-101), 3) := by decide +kernel
theorem dXR_limits_106 : decode cXR_limits 106 = .ok (.iconst 1, 1) := by decide +kernel
theorem dXR_limits_107 : decode cXR_limits 107 = .ok (.ireturn, 1) := by decide +kernel
theorem dXB_tellsLimit_0 : decode cXB_tellsLimit 0 = .ok (.aload_n 0, 1) := by decide +kernel
theorem dXB_tellsLimit_1 : decode cXB_tellsLimit 1 = .ok (.getfield 24, 3) := by decide +kernel
theorem dXB_tellsLimit_4 : decode cXB_tellsLimit 4 = .ok (.iload_n 1, 1) := by decide +kernel
theorem dXB_tellsLimit_5 : decode cXB_tellsLimit 5 = .ok (.iconst 4, 1) := by decide +kernel
theorem dXB_tellsLimit_6 : decode cXB_tellsLimit 6 = .ok (.imul, 1) := by decide +kernel
theorem dXB_tellsLimit_7 : decode cXB_tellsLimit 7 = .ok (.iload_n 2, 1) := by decide +kernel
theorem dXB_tellsLimit_8 : decode cXB_tellsLimit 8 = .ok (.iadd, 1) := by decide +kernel
theorem dXB_tellsLimit_9 : decode cXB_tellsLimit 9 = .ok (.iaload, 1) := by decide +kernel
theorem dXB_tellsLimit_10 : decode cXB_tellsLimit 10 = .ok (.iconst (-1), 1) := by decide +kernel
theorem dXB_tellsLimit_11 : decode cXB_tellsLimit 11 = .ok (.if_icmp .eq 7, 3) := by decide +kernel
theorem dXB_tellsLimit_14 : decode cXB_tellsLimit 14 = .ok (.iconst 1, 1) := by decide +kernel
theorem dXB_tellsLimit_15 : decode cXB_tellsLimit 15 = .ok (.goto 4, 3) := by decide +kernel
theorem dXB_tellsLimit_18 : decode cXB_tellsLimit 18 = .ok (.iconst 0, 1) := by decide +kernel
theorem dXB_tellsLimit_19 : decode cXB_tellsLimit 19 = .ok (.ireturn, 1) := by decide +kernel
theorem dXB_tellLimit_0 : decode cXB_tellLimit 0 = .ok (.aload_n 0, 1) := by decide +kernel
theorem dXB_tellLimit_1 : decode cXB_tellLimit 1 = .ok (.getfield 24, 3) := by decide +kernel
theorem dXB_tellLimit_4 : decode cXB_tellLimit 4 = .ok (.iload_n 1, 1) := by decide +kernel
theorem dXB_tellLimit_5 : decode cXB_tellLimit 5 = .ok (.iconst 4, 1) := by decide +kernel
theorem dXB_tellLimit_6 : decode cXB_tellLimit 6 = .ok (.imul, 1) := by decide +kernel
theorem dXB_tellLimit_7 : decode cXB_tellLimit 7 = .ok (.iload_n 2, 1) := by decide +kernel
theorem dXB_tellLimit_8 : decode cXB_tellLimit 8 = .ok (.iadd, 1) := by decide +kernel
theorem dXB_tellLimit_9 : decode cXB_tellLimit 9 = .ok (.iload_n 3, 1) := by decide +kernel
theorem dXB_tellLimit_10 : decode cXB_tellLimit 10 = .ok (.iastore, 1) := by decide +kernel
theorem dXB_tellLimit_11 : decode cXB_tellLimit 11 = .ok (.return_, 1) := by decide +kernel
theorem dXT_empty_0 : decode cXT_empty 0 = .ok (.aload_n 0, 1) := by decide +kernel
theorem dXT_empty_1 : decode cXT_empty 1 = .ok (.iconst 0, 1) := by decide +kernel
theorem dXT_empty_2 : decode cXT_empty 2 = .ok (.putfield 15, 3) := by decide +kernel
theorem dXT_empty_5 : decode cXT_empty 5 = .ok (.return_, 1) := by decide +kernel
theorem dXT_wrongPlace_0 : decode cXT_wrongPlace 0 = .ok (.aload_n 0, 1) := by decide +kernel
theorem dXT_wrongPlace_1 : decode cXT_wrongPlace 1 = .ok (.getfield 22, 3) := by decide +kernel
theorem dXT_wrongPlace_4 : decode cXT_wrongPlace 4 = .ok (.ireturn, 1) := by decide +kernel
theorem dXB_settle_0 : decode cXB_settle 0 = .ok (.iconst 1, 1) := by decide +kernel
theorem dXB_settle_1 : decode cXB_settle 1 = .ok (.istore_n 1, 1) := by decide +kernel
theorem dXB_settle_2 : decode cXB_settle 2 = .ok (.iload_n 1, 1) := by decide +kernel
theorem dXB_settle_3 : decode cXB_settle 3 = .ok (.bipush 30, 2) := by decide +kernel
theorem dXB_settle_5 : decode cXB_settle 5 = .ok (.if_icmp .gt 43, 3) := by decide +kernel
theorem dXB_settle_8 : decode cXB_settle 8 = .ok (.aload_n 0, 1) := by decide +kernel
theorem dXB_settle_9 : decode cXB_settle 9 = .ok (.getfield 9, 3) := by decide +kernel
theorem dXB_settle_12 : decode cXB_settle 12 = .ok (.iload_n 1, 1) := by decide +kernel
theorem dXB_settle_13 : decode cXB_settle 13 = .ok (.iaload, 1) := by decide +kernel
theorem dXB_settle_14 : decode cXB_settle 14 = .ok (.istore_n 2, 1) := by decide +kernel
theorem dXB_settle_15 : decode cXB_settle 15 = .ok (.aload_n 0, 1) := by decide +kernel
theorem dXB_settle_16 : decode cXB_settle 16 = .ok (.getfield 15, 3) := by decide +kernel
theorem dXB_settle_19 : decode cXB_settle 19 = .ok (.iload_n 1, 1) := by decide +kernel
theorem dXB_settle_20 : decode cXB_settle 20 = .ok (.aload_n 0, 1) := by decide +kernel
theorem dXB_settle_21 : decode cXB_settle 21 = .ok (.iload_n 2, 1) := by decide +kernel
theorem dXB_settle_22 : decode cXB_settle 22 = .ok (.invokevirtual 56, 3) := by decide +kernel
theorem dXB_settle_25 : decode cXB_settle 25 = .ok (.ifCond .eq 15, 3) := by decide +kernel
theorem dXB_settle_28 : decode cXB_settle 28 = .ok (.aload_n 0, 1) := by decide +kernel
theorem dXB_settle_29 : decode cXB_settle 29 = .ok (.iload_n 1, 1) := by decide +kernel
theorem dXB_settle_30 : decode cXB_settle 30 = .ok (.invokevirtual 60, 3) := by decide +kernel
theorem dXB_settle_33 : decode cXB_settle 33 = .ok (.ifCond .ne 7, 3) := by decide +kernel
theorem dXB_settle_36 : decode cXB_settle 36 = .ok (.iload_n 2, 1) := by decide +kernel
theorem dXB_settle_37 : decode cXB_settle 37 = .ok (.goto 4, 3) := by decide +kernel
theorem dXB_settle_40 : decode cXB_settle 40 = .ok (.iconst 0, 1) := by decide +kernel
theorem dXB_settle_41 : decode cXB_settle 41 = .ok (.iastore, 1) := by decide +kernel
theorem dXB_settle_42 : decode cXB_settle 42 = .ok (.iinc 1 1, 3) := by decide +kernel
theorem dXB_settle_45 : decode cXB_settle 45 = .ok (.goto (-43), 3) := by decide +kernel
theorem dXB_settle_48 : decode cXB_settle 48 = .ok (.return_, 1) := by decide +kernel
theorem dXB_onRing_0 : decode cXB_onRing 0 = .ok (.aload_n 0, 1) := by decide +kernel
theorem dXB_onRing_1 : decode cXB_onRing 1 = .ok (.getfield 9, 3) := by decide +kernel
theorem dXB_onRing_4 : decode cXB_onRing 4 = .ok (.iload_n 1, 1) := by decide +kernel
theorem dXB_onRing_5 : decode cXB_onRing 5 = .ok (.iaload, 1) := by decide +kernel
theorem dXB_onRing_6 : decode cXB_onRing 6 = .ok (.istore_n 2, 1) := by decide +kernel
theorem dXB_onRing_7 : decode cXB_onRing 7 = .ok (.iconst 0, 1) := by decide +kernel
theorem dXB_onRing_8 : decode cXB_onRing 8 = .ok (.istore_n 3, 1) := by decide +kernel
theorem dXB_onRing_9 : decode cXB_onRing 9 = .ok (.iload_n 3, 1) := by decide +kernel
theorem dXB_onRing_10 : decode cXB_onRing 10 = .ok (.bipush 30, 2) := by decide +kernel
theorem dXB_onRing_12 : decode cXB_onRing 12 = .ok (.if_icmp .ge 27, 3) := by decide +kernel
theorem dXB_onRing_15 : decode cXB_onRing 15 = .ok (.iload_n 2, 1) := by decide +kernel
theorem dXB_onRing_16 : decode cXB_onRing 16 = .ok (.ifCond .le 23, 3) := by decide +kernel
theorem dXB_onRing_19 : decode cXB_onRing 19 = .ok (.iload_n 2, 1) := by decide +kernel
theorem dXB_onRing_20 : decode cXB_onRing 20 = .ok (.iload_n 1, 1) := by decide +kernel
theorem dXB_onRing_21 : decode cXB_onRing 21 = .ok (.if_icmp .ne 5, 3) := by decide +kernel
theorem dXB_onRing_24 : decode cXB_onRing 24 = .ok (.iconst 1, 1) := by decide +kernel
theorem dXB_onRing_25 : decode cXB_onRing 25 = .ok (.ireturn, 1) := by decide +kernel
theorem dXB_onRing_26 : decode cXB_onRing 26 = .ok (.aload_n 0, 1) := by decide +kernel
theorem dXB_onRing_27 : decode cXB_onRing 27 = .ok (.getfield 9, 3) := by decide +kernel
theorem dXB_onRing_30 : decode cXB_onRing 30 = .ok (.iload_n 2, 1) := by decide +kernel
theorem dXB_onRing_31 : decode cXB_onRing 31 = .ok (.iaload, 1) := by decide +kernel
theorem dXB_onRing_32 : decode cXB_onRing 32 = .ok (.istore_n 2, 1) := by decide +kernel
theorem dXB_onRing_33 : decode cXB_onRing 33 = .ok (.iinc 3 1, 3) := by decide +kernel
theorem dXB_onRing_36 : decode cXB_onRing 36 = .ok (.goto (-27), 3) := by decide +kernel
theorem dXB_onRing_39 : decode cXB_onRing 39 = .ok (.iconst 0, 1) := by decide +kernel
theorem dXB_onRing_40 : decode cXB_onRing 40 = .ok (.ireturn, 1) := by decide +kernel
theorem dXB_count_0 : decode cXB_count 0 = .ok (.aload_n 0, 1) := by decide +kernel
theorem dXB_count_1 : decode cXB_count 1 = .ok (.getfield 33, 3) := by decide +kernel
theorem dXB_count_4 : decode cXB_count 4 = .ok (.invokestatic 46, 3) := by decide +kernel
theorem dXB_count_7 : decode cXB_count 7 = .ok (.ireturn, 1) := by decide +kernel
theorem dXI_bitCount_0 : decode cXI_bitCount 0 = .ok (.iload_n 0, 1) := by decide +kernel
theorem dXI_bitCount_1 : decode cXI_bitCount 1 = .ok (.iload_n 0, 1) := by decide +kernel
theorem dXI_bitCount_2 : decode cXI_bitCount 2 = .ok (.iconst 1, 1) := by decide +kernel
theorem dXI_bitCount_3 : decode cXI_bitCount 3 = .ok (.iushr, 1) := by decide +kernel
theorem dXI_bitCount_4 : decode cXI_bitCount 4 = .ok (.ldc_w 265, 3) := by decide +kernel
theorem dXI_bitCount_7 : decode cXI_bitCount 7 = .ok (.iand, 1) := by decide +kernel
theorem dXI_bitCount_8 : decode cXI_bitCount 8 = .ok (.isub, 1) := by decide +kernel
theorem dXI_bitCount_9 : decode cXI_bitCount 9 = .ok (.istore_n 0, 1) := by decide +kernel
theorem dXI_bitCount_10 : decode cXI_bitCount 10 = .ok (.iload_n 0, 1) := by decide +kernel
theorem dXI_bitCount_11 : decode cXI_bitCount 11 = .ok (.ldc_w 266, 3) := by decide +kernel
theorem dXI_bitCount_14 : decode cXI_bitCount 14 = .ok (.iand, 1) := by decide +kernel
theorem dXI_bitCount_15 : decode cXI_bitCount 15 = .ok (.iload_n 0, 1) := by decide +kernel
theorem dXI_bitCount_16 : decode cXI_bitCount 16 = .ok (.iconst 2, 1) := by decide +kernel
theorem dXI_bitCount_17 : decode cXI_bitCount 17 = .ok (.iushr, 1) := by decide +kernel
theorem dXI_bitCount_18 : decode cXI_bitCount 18 = .ok (.ldc_w 266, 3) := by decide +kernel
theorem dXI_bitCount_21 : decode cXI_bitCount 21 = .ok (.iand, 1) := by decide +kernel
theorem dXI_bitCount_22 : decode cXI_bitCount 22 = .ok (.iadd, 1) := by decide +kernel
theorem dXI_bitCount_23 : decode cXI_bitCount 23 = .ok (.istore_n 0, 1) := by decide +kernel
theorem dXI_bitCount_24 : decode cXI_bitCount 24 = .ok (.iload_n 0, 1) := by decide +kernel
theorem dXI_bitCount_25 : decode cXI_bitCount 25 = .ok (.iload_n 0, 1) := by decide +kernel
theorem dXI_bitCount_26 : decode cXI_bitCount 26 = .ok (.iconst 4, 1) := by decide +kernel
theorem dXI_bitCount_27 : decode cXI_bitCount 27 = .ok (.iushr, 1) := by decide +kernel
theorem dXI_bitCount_28 : decode cXI_bitCount 28 = .ok (.iadd, 1) := by decide +kernel
theorem dXI_bitCount_29 : decode cXI_bitCount 29 = .ok (.ldc_w 267, 3) := by decide +kernel
theorem dXI_bitCount_32 : decode cXI_bitCount 32 = .ok (.iand, 1) := by decide +kernel
theorem dXI_bitCount_33 : decode cXI_bitCount 33 = .ok (.istore_n 0, 1) := by decide +kernel
theorem dXI_bitCount_34 : decode cXI_bitCount 34 = .ok (.iload_n 0, 1) := by decide +kernel
theorem dXI_bitCount_35 : decode cXI_bitCount 35 = .ok (.iload_n 0, 1) := by decide +kernel
theorem dXI_bitCount_36 : decode cXI_bitCount 36 = .ok (.bipush 8, 2) := by decide +kernel
theorem dXI_bitCount_38 : decode cXI_bitCount 38 = .ok (.iushr, 1) := by decide +kernel
theorem dXI_bitCount_39 : decode cXI_bitCount 39 = .ok (.iadd, 1) := by decide +kernel
theorem dXI_bitCount_40 : decode cXI_bitCount 40 = .ok (.istore_n 0, 1) := by decide +kernel
theorem dXI_bitCount_41 : decode cXI_bitCount 41 = .ok (.iload_n 0, 1) := by decide +kernel
theorem dXI_bitCount_42 : decode cXI_bitCount 42 = .ok (.iload_n 0, 1) := by decide +kernel
theorem dXI_bitCount_43 : decode cXI_bitCount 43 = .ok (.bipush 16, 2) := by decide +kernel
theorem dXI_bitCount_45 : decode cXI_bitCount 45 = .ok (.iushr, 1) := by decide +kernel
theorem dXI_bitCount_46 : decode cXI_bitCount 46 = .ok (.iadd, 1) := by decide +kernel
theorem dXI_bitCount_47 : decode cXI_bitCount 47 = .ok (.istore_n 0, 1) := by decide +kernel
theorem dXI_bitCount_48 : decode cXI_bitCount 48 = .ok (.iload_n 0, 1) := by decide +kernel
theorem dXI_bitCount_49 : decode cXI_bitCount 49 = .ok (.bipush 63, 2) := by decide +kernel
theorem dXI_bitCount_51 : decode cXI_bitCount 51 = .ok (.iand, 1) := by decide +kernel
theorem dXI_bitCount_52 : decode cXI_bitCount 52 = .ok (.ireturn, 1) := by decide +kernel
theorem dXG_clear_0 : decode cXG_clear 0 = .ok (.aload_n 0, 1) := by decide +kernel
theorem dXG_clear_1 : decode cXG_clear 1 = .ok (.getfield 10, 3) := by decide +kernel
theorem dXG_clear_4 : decode cXG_clear 4 = .ok (.invokevirtual 76, 3) := by decide +kernel
theorem dXG_clear_7 : decode cXG_clear 7 = .ok (.aload_n 0, 1) := by decide +kernel
theorem dXG_clear_8 : decode cXG_clear 8 = .ok (.getfield 42, 3) := by decide +kernel
theorem dXG_clear_11 : decode cXG_clear 11 = .ok (.invokevirtual 69, 3) := by decide +kernel
theorem dXG_clear_14 : decode cXG_clear 14 = .ok (.aload_n 0, 1) := by decide +kernel
theorem dXG_clear_15 : decode cXG_clear 15 = .ok (.getfield 32, 3) := by decide +kernel
theorem dXG_clear_18 : decode cXG_clear 18 = .ok (.iconst 0, 1) := by decide +kernel
theorem dXG_clear_19 : decode cXG_clear 19 = .ok (.invokestatic 154, 3) := by decide +kernel
theorem dXG_clear_22 : decode cXG_clear 22 = .ok (.return_, 1) := by decide +kernel
theorem dXG_sign_0 : decode cXG_sign 0 = .ok (.iload_n 3, 1) := by decide +kernel
theorem dXG_sign_1 : decode cXG_sign 1 = .ok (.iconst 1, 1) := by decide +kernel
theorem dXG_sign_2 : decode cXG_sign 2 = .ok (.if_icmp .lt 9, 3) := by decide +kernel
theorem dXG_sign_5 : decode cXG_sign 5 = .ok (.iload_n 3, 1) := by decide +kernel
theorem dXG_sign_6 : decode cXG_sign 6 = .ok (.bipush 8, 2) := by decide +kernel
theorem dXG_sign_8 : decode cXG_sign 8 = .ok (.if_icmp .le 13, 3) := by decide +kernel
theorem dXG_sign_11 : decode cXG_sign 11 = .ok (.new 49, 3) := by decide +kernel
theorem dXG_sign_14 : decode cXG_sign 14 = .ok (.dup, 1) := by decide +kernel
theorem dXG_sign_15 : decode cXG_sign 15 = .ok (.ldc 51, 2) := by decide +kernel
theorem dXG_sign_17 : decode cXG_sign 17 = .ok (.invokespecial 53, 3) := by decide +kernel
theorem dXG_sign_20 : decode cXG_sign 20 = .ok (.athrow, 1) := by decide +kernel
theorem dXG_sign_21 : decode cXG_sign 21 = .ok (.aload_n 0, 1) := by decide +kernel
theorem dXG_sign_22 : decode cXG_sign 22 = .ok (.getfield 10, 3) := by decide +kernel
theorem dXG_sign_25 : decode cXG_sign 25 = .ok (.iload_n 3, 1) := by decide +kernel
theorem dXG_sign_26 : decode cXG_sign 26 = .ok (.invokevirtual 56, 3) := by decide +kernel
theorem dXG_sign_29 : decode cXG_sign 29 = .ok (.ifCond .ne 13, 3) := by decide +kernel
theorem dXG_sign_32 : decode cXG_sign 32 = .ok (.new 60, 3) := by decide +kernel
theorem dXG_sign_35 : decode cXG_sign 35 = .ok (.dup, 1) := by decide +kernel
theorem dXG_sign_36 : decode cXG_sign 36 = .ok (.ldc 62, 2) := by decide +kernel
theorem dXG_sign_38 : decode cXG_sign 38 = .ok (.invokespecial 64, 3) := by decide +kernel
theorem dXG_sign_41 : decode cXG_sign 41 = .ok (.athrow, 1) := by decide +kernel
theorem dXG_sign_42 : decode cXG_sign 42 = .ok (.aload_n 0, 1) := by decide +kernel
theorem dXG_sign_43 : decode cXG_sign 43 = .ok (.getfield 10, 3) := by decide +kernel
theorem dXG_sign_46 : decode cXG_sign 46 = .ok (.lload_n 1, 1) := by decide +kernel
theorem dXG_sign_47 : decode cXG_sign 47 = .ok (.iload_n 3, 1) := by decide +kernel
theorem dXG_sign_48 : decode cXG_sign 48 = .ok (.invokevirtual 65, 3) := by decide +kernel
theorem dXG_sign_51 : decode cXG_sign 51 = .ok (.ireturn, 1) := by decide +kernel
theorem dXT_hasRoom_0 : decode cXT_hasRoom 0 = .ok (.iload_n 1, 1) := by decide +kernel
theorem dXT_hasRoom_1 : decode cXT_hasRoom 1 = .ok (.sipush 400, 3) := by decide +kernel
theorem dXT_hasRoom_4 : decode cXT_hasRoom 4 = .ok (.aload_n 0, 1) := by decide +kernel
theorem dXT_hasRoom_5 : decode cXT_hasRoom 5 = .ok (.getfield 15, 3) := by decide +kernel
theorem dXT_hasRoom_8 : decode cXT_hasRoom 8 = .ok (.isub, 1) := by decide +kernel
theorem dXT_hasRoom_9 : decode cXT_hasRoom 9 = .ok (.if_icmp .gt 7, 3) := by decide +kernel
theorem dXT_hasRoom_12 : decode cXT_hasRoom 12 = .ok (.iconst 1, 1) := by decide +kernel
theorem dXT_hasRoom_13 : decode cXT_hasRoom 13 = .ok (.goto 4, 3) := by decide +kernel
theorem dXT_hasRoom_16 : decode cXT_hasRoom 16 = .ok (.iconst 0, 1) := by decide +kernel
theorem dXT_hasRoom_17 : decode cXT_hasRoom 17 = .ok (.ireturn, 1) := by decide +kernel
theorem dXT_append_0 : decode cXT_append 0 = .ok (.iload_n 3, 1) := by decide +kernel
theorem dXT_append_1 : decode cXT_append 1 = .ok (.iconst 1, 1) := by decide +kernel
theorem dXT_append_2 : decode cXT_append 2 = .ok (.isub, 1) := by decide +kernel
theorem dXT_append_3 : decode cXT_append 3 = .ok (.istore 4, 2) := by decide +kernel
theorem dXT_append_5 : decode cXT_append 5 = .ok (.iload 4, 2) := by decide +kernel
theorem dXT_append_7 : decode cXT_append 7 = .ok (.ifCond .lt 50, 3) := by decide +kernel
theorem dXT_append_10 : decode cXT_append 10 = .ok (.aload_n 0, 1) := by decide +kernel
theorem dXT_append_11 : decode cXT_append 11 = .ok (.getfield 15, 3) := by decide +kernel
theorem dXT_append_14 : decode cXT_append 14 = .ok (.sipush 400, 3) := by decide +kernel
theorem dXT_append_17 : decode cXT_append 17 = .ok (.if_icmp .ge 40, 3) := by decide +kernel
theorem dXT_append_20 : decode cXT_append 20 = .ok (.aload_n 0, 1) := by decide +kernel
theorem dXT_append_21 : decode cXT_append 21 = .ok (.getfield 9, 3) := by decide +kernel
theorem dXT_append_24 : decode cXT_append 24 = .ok (.aload_n 0, 1) := by decide +kernel
theorem dXT_append_25 : decode cXT_append 25 = .ok (.getfield 15, 3) := by decide +kernel
theorem dXT_append_28 : decode cXT_append 28 = .ok (.lload_n 1, 1) := by decide +kernel
theorem dXT_append_29 : decode cXT_append 29 = .ok (.bipush 8, 2) := by decide +kernel
theorem dXT_append_31 : decode cXT_append 31 = .ok (.iload 4, 2) := by decide +kernel
theorem dXT_append_33 : decode cXT_append 33 = .ok (.imul, 1) := by decide +kernel
theorem dXT_append_34 : decode cXT_append 34 = .ok (.lushr, 1) := by decide +kernel
theorem dXT_append_35 : decode cXT_append 35 = .ok (.ldc2_w 25, 3) := by decide +kernel
theorem dXT_append_38 : decode cXT_append 38 = .ok (.land, 1) := by decide +kernel
theorem dXT_append_39 : decode cXT_append 39 = .ok (.l2i, 1) := by decide +kernel
theorem dXT_append_40 : decode cXT_append 40 = .ok (.iastore, 1) := by decide +kernel
theorem dXT_append_41 : decode cXT_append 41 = .ok (.aload_n 0, 1) := by decide +kernel
theorem dXT_append_42 : decode cXT_append 42 = .ok (.dup, 1) := by decide +kernel
theorem dXT_append_43 : decode cXT_append 43 = .ok (.getfield 15, 3) := by decide +kernel
theorem dXT_append_46 : decode cXT_append 46 = .ok (.iconst 1, 1) := by decide +kernel
theorem dXT_append_47 : decode cXT_append 47 = .ok (.iadd, 1) := by decide +kernel
theorem dXT_append_48 : decode cXT_append 48 = .ok (.putfield 15, 3) := by decide +kernel
theorem dXT_append_51 : decode cXT_append 51 = .ok (.iinc 4 (-1), 3) := by decide +kernel
theorem dXT_append_54 : decode cXT_append 54 = .ok (.goto (-49), 3) := by decide +kernel
theorem dXT_append_57 : decode cXT_append 57 = .ok (.aload_n 0, 1) := by decide +kernel
theorem dXT_append_58 : decode cXT_append 58 = .ok (.getfield 15, 3) := by decide +kernel
theorem dXT_append_61 : decode cXT_append 61 = .ok (.ireturn, 1) := by decide +kernel
theorem dXG_span_0 : decode cXG_span 0 = .ok (.aload_n 0, 1) := by decide +kernel
theorem dXG_span_1 : decode cXG_span 1 = .ok (.iload_n 1, 1) := by decide +kernel
theorem dXG_span_2 : decode cXG_span 2 = .ok (.invokevirtual 89, 3) := by decide +kernel
theorem dXG_span_5 : decode cXG_span 5 = .ok (.iload_n 2, 1) := by decide +kernel
theorem dXG_span_6 : decode cXG_span 6 = .ok (.bipush 8, 2) := by decide +kernel
theorem dXG_span_8 : decode cXG_span 8 = .ok (.invokestatic 93, 3) := by decide +kernel
theorem dXG_span_11 : decode cXG_span 11 = .ok (.iload_n 3, 1) := by decide +kernel
theorem dXG_span_12 : decode cXG_span 12 = .ok (.iconst 2, 1) := by decide +kernel
theorem dXG_span_13 : decode cXG_span 13 = .ok (.invokestatic 93, 3) := by decide +kernel
theorem dXG_span_16 : decode cXG_span 16 = .ok (.aload_n 0, 1) := by decide +kernel
theorem dXG_span_17 : decode cXG_span 17 = .ok (.getfield 42, 3) := by decide +kernel
theorem dXG_span_20 : decode cXG_span 20 = .ok (.iload_n 1, 1) := by decide +kernel
theorem dXG_span_21 : decode cXG_span 21 = .ok (.iload_n 2, 1) := by decide +kernel
theorem dXG_span_22 : decode cXG_span 22 = .ok (.iload_n 3, 1) := by decide +kernel
theorem dXG_span_23 : decode cXG_span 23 = .ok (.invokevirtual 97, 3) := by decide +kernel
theorem dXG_span_26 : decode cXG_span 26 = .ok (.ireturn, 1) := by decide +kernel
theorem dXG_needGrade_0 : decode cXG_needGrade 0 = .ok (.aload_n 0, 1) := by decide +kernel
theorem dXG_needGrade_1 : decode cXG_needGrade 1 = .ok (.getfield 42, 3) := by decide +kernel
theorem dXG_needGrade_4 : decode cXG_needGrade 4 = .ok (.iload_n 1, 1) := by decide +kernel
theorem dXG_needGrade_5 : decode cXG_needGrade 5 = .ok (.invokevirtual 160, 3) := by decide +kernel
theorem dXG_needGrade_8 : decode cXG_needGrade 8 = .ok (.ifCond .ne 13, 3) := by decide +kernel
theorem dXG_needGrade_11 : decode cXG_needGrade 11 = .ok (.new 163, 3) := by decide +kernel
theorem dXG_needGrade_14 : decode cXG_needGrade 14 = .ok (.dup, 1) := by decide +kernel
theorem dXG_needGrade_15 : decode cXG_needGrade 15 = .ok (.ldc 165, 2) := by decide +kernel
theorem dXG_needGrade_17 : decode cXG_needGrade 17 = .ok (.invokespecial 167, 3) := by decide +kernel
theorem dXG_needGrade_20 : decode cXG_needGrade 20 = .ok (.athrow, 1) := by decide +kernel
theorem dXG_needGrade_21 : decode cXG_needGrade 21 = .ok (.return_, 1) := by decide +kernel
theorem dXG_needBelow_0 : decode cXG_needBelow 0 = .ok (.iload_n 0, 1) := by decide +kernel
theorem dXG_needBelow_1 : decode cXG_needBelow 1 = .ok (.ifCond .lt 8, 3) := by decide +kernel
theorem dXG_needBelow_4 : decode cXG_needBelow 4 = .ok (.iload_n 0, 1) := by decide +kernel
theorem dXG_needBelow_5 : decode cXG_needBelow 5 = .ok (.iload_n 1, 1) := by decide +kernel
theorem dXG_needBelow_6 : decode cXG_needBelow 6 = .ok (.if_icmp .lt 13, 3) := by decide +kernel
theorem dXG_needBelow_9 : decode cXG_needBelow 9 = .ok (.new 163, 3) := by decide +kernel
theorem dXG_needBelow_12 : decode cXG_needBelow 12 = .ok (.dup, 1) := by decide +kernel
theorem dXG_needBelow_13 : decode cXG_needBelow 13 = .ok (.ldc 168, 2) := by decide +kernel
theorem dXG_needBelow_15 : decode cXG_needBelow 15 = .ok (.invokespecial 167, 3) := by decide +kernel
theorem dXG_needBelow_18 : decode cXG_needBelow 18 = .ok (.athrow, 1) := by decide +kernel
theorem dXG_needBelow_19 : decode cXG_needBelow 19 = .ok (.return_, 1) := by decide +kernel
theorem dXB_endOf_0 : decode cXB_endOf 0 = .ok (.iload_n 1, 1) := by decide +kernel
theorem dXB_endOf_1 : decode cXB_endOf 1 = .ok (.istore 4, 2) := by decide +kernel
theorem dXB_endOf_3 : decode cXB_endOf 3 = .ok (.iconst 0, 1) := by decide +kernel
theorem dXB_endOf_4 : decode cXB_endOf 4 = .ok (.istore 5, 2) := by decide +kernel
theorem dXB_endOf_6 : decode cXB_endOf 6 = .ok (.iload 5, 2) := by decide +kernel
theorem dXB_endOf_8 : decode cXB_endOf 8 = .ok (.bipush 30, 2) := by decide +kernel
theorem dXB_endOf_10 : decode cXB_endOf 10 = .ok (.if_icmp .ge 33, 3) := by decide +kernel
theorem dXB_endOf_13 : decode cXB_endOf 13 = .ok (.iload 4, 2) := by decide +kernel
theorem dXB_endOf_15 : decode cXB_endOf 15 = .ok (.ifCond .le 28, 3) := by decide +kernel
theorem dXB_endOf_18 : decode cXB_endOf 18 = .ok (.aload_n 0, 1) := by decide +kernel
theorem dXB_endOf_19 : decode cXB_endOf 19 = .ok (.iload 4, 2) := by decide +kernel
theorem dXB_endOf_21 : decode cXB_endOf 21 = .ok (.iload_n 2, 1) := by decide +kernel
theorem dXB_endOf_22 : decode cXB_endOf 22 = .ok (.invokevirtual 63, 3) := by decide +kernel
theorem dXB_endOf_25 : decode cXB_endOf 25 = .ok (.ifCond .ne 18, 3) := by decide +kernel
theorem dXB_endOf_28 : decode cXB_endOf 28 = .ok (.aload_n 0, 1) := by decide +kernel
theorem dXB_endOf_29 : decode cXB_endOf 29 = .ok (.getfield 15, 3) := by decide +kernel
theorem dXB_endOf_32 : decode cXB_endOf 32 = .ok (.iload 4, 2) := by decide +kernel
theorem dXB_endOf_34 : decode cXB_endOf 34 = .ok (.iaload, 1) := by decide +kernel
theorem dXB_endOf_35 : decode cXB_endOf 35 = .ok (.istore 4, 2) := by decide +kernel
theorem dXB_endOf_37 : decode cXB_endOf 37 = .ok (.iinc 5 1, 3) := by decide +kernel
theorem dXB_endOf_40 : decode cXB_endOf 40 = .ok (.goto (-34), 3) := by decide +kernel
theorem dXB_endOf_43 : decode cXB_endOf 43 = .ok (.iload 4, 2) := by decide +kernel
theorem dXB_endOf_45 : decode cXB_endOf 45 = .ok (.ifCond .ne 14, 3) := by decide +kernel
theorem dXB_endOf_48 : decode cXB_endOf 48 = .ok (.iload_n 3, 1) := by decide +kernel
theorem dXB_endOf_49 : decode cXB_endOf 49 = .ok (.ifCond .ne 7, 3) := by decide +kernel
theorem dXB_endOf_52 : decode cXB_endOf 52 = .ok (.iconst 0, 1) := by decide +kernel
theorem dXB_endOf_53 : decode cXB_endOf 53 = .ok (.goto 5, 3) := by decide +kernel
theorem dXB_endOf_56 : decode cXB_endOf 56 = .ok (.ldc 66, 2) := by decide +kernel
theorem dXB_endOf_58 : decode cXB_endOf 58 = .ok (.ireturn, 1) := by decide +kernel
theorem dXB_endOf_59 : decode cXB_endOf 59 = .ok (.iload_n 3, 1) := by decide +kernel
theorem dXB_endOf_60 : decode cXB_endOf 60 = .ok (.ifCond .ne 18, 3) := by decide +kernel
theorem dXB_endOf_63 : decode cXB_endOf 63 = .ok (.aload_n 0, 1) := by decide +kernel
theorem dXB_endOf_64 : decode cXB_endOf 64 = .ok (.getfield 18, 3) := by decide +kernel
theorem dXB_endOf_67 : decode cXB_endOf 67 = .ok (.iload 4, 2) := by decide +kernel
theorem dXB_endOf_69 : decode cXB_endOf 69 = .ok (.bipush 8, 2) := by decide +kernel
theorem dXB_endOf_71 : decode cXB_endOf 71 = .ok (.imul, 1) := by decide +kernel
theorem dXB_endOf_72 : decode cXB_endOf 72 = .ok (.iload_n 2, 1) := by decide +kernel
theorem dXB_endOf_73 : decode cXB_endOf 73 = .ok (.iadd, 1) := by decide +kernel
theorem dXB_endOf_74 : decode cXB_endOf 74 = .ok (.iaload, 1) := by decide +kernel
theorem dXB_endOf_75 : decode cXB_endOf 75 = .ok (.goto 15, 3) := by decide +kernel
theorem dXB_endOf_78 : decode cXB_endOf 78 = .ok (.aload_n 0, 1) := by decide +kernel
theorem dXB_endOf_79 : decode cXB_endOf 79 = .ok (.getfield 21, 3) := by decide +kernel
theorem dXB_endOf_82 : decode cXB_endOf 82 = .ok (.iload 4, 2) := by decide +kernel
theorem dXB_endOf_84 : decode cXB_endOf 84 = .ok (.bipush 8, 2) := by decide +kernel
theorem dXB_endOf_86 : decode cXB_endOf 86 = .ok (.imul, 1) := by decide +kernel
theorem dXB_endOf_87 : decode cXB_endOf 87 = .ok (.iload_n 2, 1) := by decide +kernel
theorem dXB_endOf_88 : decode cXB_endOf 88 = .ok (.iadd, 1) := by decide +kernel
theorem dXB_endOf_89 : decode cXB_endOf 89 = .ok (.iaload, 1) := by decide +kernel
theorem dXB_endOf_90 : decode cXB_endOf 90 = .ok (.ireturn, 1) := by decide +kernel
theorem dXG_limit_0 : decode cXG_limit 0 = .ok (.aload_n 0, 1) := by decide +kernel
theorem dXG_limit_1 : decode cXG_limit 1 = .ok (.iload_n 1, 1) := by decide +kernel
theorem dXG_limit_2 : decode cXG_limit 2 = .ok (.invokevirtual 89, 3) := by decide +kernel
theorem dXG_limit_5 : decode cXG_limit 5 = .ok (.iload_n 2, 1) := by decide +kernel
theorem dXG_limit_6 : decode cXG_limit 6 = .ok (.iconst 4, 1) := by decide +kernel
theorem dXG_limit_7 : decode cXG_limit 7 = .ok (.invokestatic 93, 3) := by decide +kernel
theorem dXG_limit_10 : decode cXG_limit 10 = .ok (.aload_n 0, 1) := by decide +kernel
theorem dXG_limit_11 : decode cXG_limit 11 = .ok (.getfield 42, 3) := by decide +kernel
theorem dXG_limit_14 : decode cXG_limit 14 = .ok (.iload_n 1, 1) := by decide +kernel
theorem dXG_limit_15 : decode cXG_limit 15 = .ok (.iload_n 2, 1) := by decide +kernel
theorem dXG_limit_16 : decode cXG_limit 16 = .ok (.invokevirtual 101, 3) := by decide +kernel
theorem dXG_limit_19 : decode cXG_limit 19 = .ok (.ireturn, 1) := by decide +kernel
theorem dXB_limitOf_0 : decode cXB_limitOf 0 = .ok (.iload_n 1, 1) := by decide +kernel
theorem dXB_limitOf_1 : decode cXB_limitOf 1 = .ok (.istore_n 3, 1) := by decide +kernel
theorem dXB_limitOf_2 : decode cXB_limitOf 2 = .ok (.iconst 0, 1) := by decide +kernel
theorem dXB_limitOf_3 : decode cXB_limitOf 3 = .ok (.istore 4, 2) := by decide +kernel
theorem dXB_limitOf_5 : decode cXB_limitOf 5 = .ok (.iload 4, 2) := by decide +kernel
theorem dXB_limitOf_7 : decode cXB_limitOf 7 = .ok (.bipush 30, 2) := by decide +kernel
theorem dXB_limitOf_9 : decode cXB_limitOf 9 = .ok (.if_icmp .ge 29, 3) := by decide +kernel
theorem dXB_limitOf_12 : decode cXB_limitOf 12 = .ok (.iload_n 3, 1) := by decide +kernel
theorem dXB_limitOf_13 : decode cXB_limitOf 13 = .ok (.ifCond .le 25, 3) := by decide +kernel
theorem dXB_limitOf_16 : decode cXB_limitOf 16 = .ok (.aload_n 0, 1) := by decide +kernel
theorem dXB_limitOf_17 : decode cXB_limitOf 17 = .ok (.iload_n 3, 1) := by decide +kernel
theorem dXB_limitOf_18 : decode cXB_limitOf 18 = .ok (.iload_n 2, 1) := by decide +kernel
theorem dXB_limitOf_19 : decode cXB_limitOf 19 = .ok (.invokevirtual 67, 3) := by decide +kernel
theorem dXB_limitOf_22 : decode cXB_limitOf 22 = .ok (.ifCond .ne 16, 3) := by decide +kernel
theorem dXB_limitOf_25 : decode cXB_limitOf 25 = .ok (.aload_n 0, 1) := by decide +kernel
theorem dXB_limitOf_26 : decode cXB_limitOf 26 = .ok (.getfield 15, 3) := by decide +kernel
theorem dXB_limitOf_29 : decode cXB_limitOf 29 = .ok (.iload_n 3, 1) := by decide +kernel
theorem dXB_limitOf_30 : decode cXB_limitOf 30 = .ok (.iaload, 1) := by decide +kernel
theorem dXB_limitOf_31 : decode cXB_limitOf 31 = .ok (.istore_n 3, 1) := by decide +kernel
theorem dXB_limitOf_32 : decode cXB_limitOf 32 = .ok (.iinc 4 1, 3) := by decide +kernel
theorem dXB_limitOf_35 : decode cXB_limitOf 35 = .ok (.goto (-30), 3) := by decide +kernel
theorem dXB_limitOf_38 : decode cXB_limitOf 38 = .ok (.iload_n 3, 1) := by decide +kernel
theorem dXB_limitOf_39 : decode cXB_limitOf 39 = .ok (.ifCond .ne 7, 3) := by decide +kernel
theorem dXB_limitOf_42 : decode cXB_limitOf 42 = .ok (.iconst (-1), 1) := by decide +kernel
theorem dXB_limitOf_43 : decode cXB_limitOf 43 = .ok (.goto 13, 3) := by decide +kernel
theorem dXB_limitOf_46 : decode cXB_limitOf 46 = .ok (.aload_n 0, 1) := by decide +kernel
theorem dXB_limitOf_47 : decode cXB_limitOf 47 = .ok (.getfield 24, 3) := by decide +kernel
theorem dXB_limitOf_50 : decode cXB_limitOf 50 = .ok (.iload_n 3, 1) := by decide +kernel
theorem dXB_limitOf_51 : decode cXB_limitOf 51 = .ok (.iconst 4, 1) := by decide +kernel
theorem dXB_limitOf_52 : decode cXB_limitOf 52 = .ok (.imul, 1) := by decide +kernel
theorem dXB_limitOf_53 : decode cXB_limitOf 53 = .ok (.iload_n 2, 1) := by decide +kernel
theorem dXB_limitOf_54 : decode cXB_limitOf 54 = .ok (.iadd, 1) := by decide +kernel
theorem dXB_limitOf_55 : decode cXB_limitOf 55 = .ok (.iaload, 1) := by decide +kernel
theorem dXB_limitOf_56 : decode cXB_limitOf 56 = .ok (.ireturn, 1) := by decide +kernel
theorem dXG_equivalent_0 : decode cXG_equivalent 0 = .ok (.aload_n 0, 1) := by decide +kernel
theorem dXG_equivalent_1 : decode cXG_equivalent 1 = .ok (.iload_n 1, 1) := by decide +kernel
theorem dXG_equivalent_2 : decode cXG_equivalent 2 = .ok (.invokevirtual 89, 3) := by decide +kernel
theorem dXG_equivalent_5 : decode cXG_equivalent 5 = .ok (.iload_n 2, 1) := by decide +kernel
theorem dXG_equivalent_6 : decode cXG_equivalent 6 = .ok (.iconst 4, 1) := by decide +kernel
theorem dXG_equivalent_7 : decode cXG_equivalent 7 = .ok (.invokestatic 93, 3) := by decide +kernel
theorem dXG_equivalent_10 : decode cXG_equivalent 10 = .ok (.iload_n 3, 1) := by decide +kernel
theorem dXG_equivalent_11 : decode cXG_equivalent 11 = .ok (.iconst 2, 1) := by decide +kernel
theorem dXG_equivalent_12 : decode cXG_equivalent 12 = .ok (.invokestatic 93, 3) := by decide +kernel
theorem dXG_equivalent_15 : decode cXG_equivalent 15 = .ok (.iload 4, 2) := by decide +kernel
theorem dXG_equivalent_17 : decode cXG_equivalent 17 = .ok (.iconst 2, 1) := by decide +kernel
theorem dXG_equivalent_18 : decode cXG_equivalent 18 = .ok (.invokestatic 93, 3) := by decide +kernel
theorem dXG_equivalent_21 : decode cXG_equivalent 21 = .ok (.aload_n 0, 1) := by decide +kernel
theorem dXG_equivalent_22 : decode cXG_equivalent 22 = .ok (.iload_n 2, 1) := by decide +kernel
theorem dXG_equivalent_23 : decode cXG_equivalent 23 = .ok (.invokevirtual 105, 3) := by decide +kernel
theorem dXG_equivalent_26 : decode cXG_equivalent 26 = .ok (.aload_n 0, 1) := by decide +kernel
theorem dXG_equivalent_27 : decode cXG_equivalent 27 = .ok (.getfield 42, 3) := by decide +kernel
theorem dXG_equivalent_30 : decode cXG_equivalent 30 = .ok (.iload_n 1, 1) := by decide +kernel
theorem dXG_equivalent_31 : decode cXG_equivalent 31 = .ok (.iload_n 3, 1) := by decide +kernel
theorem dXG_equivalent_32 : decode cXG_equivalent 32 = .ok (.aload_n 0, 1) := by decide +kernel
theorem dXG_equivalent_33 : decode cXG_equivalent 33 = .ok (.getfield 36, 3) := by decide +kernel
theorem dXG_equivalent_36 : decode cXG_equivalent 36 = .ok (.invokevirtual 108, 3) := by decide +kernel
theorem dXG_equivalent_39 : decode cXG_equivalent 39 = .ok (.aload_n 0, 1) := by decide +kernel
theorem dXG_equivalent_40 : decode cXG_equivalent 40 = .ok (.getfield 42, 3) := by decide +kernel
theorem dXG_equivalent_43 : decode cXG_equivalent 43 = .ok (.iload_n 2, 1) := by decide +kernel
theorem dXG_equivalent_44 : decode cXG_equivalent 44 = .ok (.aload_n 0, 1) := by decide +kernel
theorem dXG_equivalent_45 : decode cXG_equivalent 45 = .ok (.getfield 36, 3) := by decide +kernel
theorem dXG_equivalent_48 : decode cXG_equivalent 48 = .ok (.invokevirtual 112, 3) := by decide +kernel
theorem dXG_equivalent_51 : decode cXG_equivalent 51 = .ok (.iload 4, 2) := by decide +kernel
theorem dXG_equivalent_53 : decode cXG_equivalent 53 = .ok (.invokestatic 116, 3) := by decide +kernel
theorem dXG_equivalent_56 : decode cXG_equivalent 56 = .ok (.lreturn, 1) := by decide +kernel
theorem dXG_needFormula_0 : decode cXG_needFormula 0 = .ok (.aload_n 0, 1) := by decide +kernel
theorem dXG_needFormula_1 : decode cXG_needFormula 1 = .ok (.getfield 42, 3) := by decide +kernel
theorem dXG_needFormula_4 : decode cXG_needFormula 4 = .ok (.iload_n 1, 1) := by decide +kernel
theorem dXG_needFormula_5 : decode cXG_needFormula 5 = .ok (.invokevirtual 172, 3) := by decide +kernel
theorem dXG_needFormula_8 : decode cXG_needFormula 8 = .ok (.ifCond .ne 13, 3) := by decide +kernel
theorem dXG_needFormula_11 : decode cXG_needFormula 11 = .ok (.new 175, 3) := by decide +kernel
theorem dXG_needFormula_14 : decode cXG_needFormula 14 = .ok (.dup, 1) := by decide +kernel
theorem dXG_needFormula_15 : decode cXG_needFormula 15 = .ok (.ldc 177, 2) := by decide +kernel
theorem dXG_needFormula_17 : decode cXG_needFormula 17 = .ok (.invokespecial 179, 3) := by decide +kernel
theorem dXG_needFormula_20 : decode cXG_needFormula 20 = .ok (.athrow, 1) := by decide +kernel
theorem dXG_needFormula_21 : decode cXG_needFormula 21 = .ok (.return_, 1) := by decide +kernel
theorem dXB_copyEnds_0 : decode cXB_copyEnds 0 = .ok (.iconst 0, 1) := by decide +kernel
theorem dXB_copyEnds_1 : decode cXB_copyEnds 1 = .ok (.istore 4, 2) := by decide +kernel
theorem dXB_copyEnds_3 : decode cXB_copyEnds 3 = .ok (.iload 4, 2) := by decide +kernel
theorem dXB_copyEnds_5 : decode cXB_copyEnds 5 = .ok (.bipush 8, 2) := by decide +kernel
theorem dXB_copyEnds_7 : decode cXB_copyEnds 7 = .ok (.if_icmp .ge 28, 3) := by decide +kernel
theorem dXB_copyEnds_10 : decode cXB_copyEnds 10 = .ok (.iload 4, 2) := by decide +kernel
theorem dXB_copyEnds_12 : decode cXB_copyEnds 12 = .ok (.aload_n 3, 1) := by decide +kernel
theorem dXB_copyEnds_13 : decode cXB_copyEnds 13 = .ok (.arraylength, 1) := by decide +kernel
theorem dXB_copyEnds_14 : decode cXB_copyEnds 14 = .ok (.if_icmp .ge 21, 3) := by decide +kernel
theorem dXB_copyEnds_17 : decode cXB_copyEnds 17 = .ok (.aload_n 3, 1) := by decide +kernel
theorem dXB_copyEnds_18 : decode cXB_copyEnds 18 = .ok (.iload 4, 2) := by decide +kernel
theorem dXB_copyEnds_20 : decode cXB_copyEnds 20 = .ok (.aload_n 0, 1) := by decide +kernel
theorem dXB_copyEnds_21 : decode cXB_copyEnds 21 = .ok (.iload_n 1, 1) := by decide +kernel
theorem dXB_copyEnds_22 : decode cXB_copyEnds 22 = .ok (.iload 4, 2) := by decide +kernel
theorem dXB_copyEnds_24 : decode cXB_copyEnds 24 = .ok (.iload_n 2, 1) := by decide +kernel
theorem dXB_copyEnds_25 : decode cXB_copyEnds 25 = .ok (.invokevirtual 70, 3) := by decide +kernel
theorem dXB_copyEnds_28 : decode cXB_copyEnds 28 = .ok (.iastore, 1) := by decide +kernel
theorem dXB_copyEnds_29 : decode cXB_copyEnds 29 = .ok (.iinc 4 1, 3) := by decide +kernel
theorem dXB_copyEnds_32 : decode cXB_copyEnds 32 = .ok (.goto (-29), 3) := by decide +kernel
theorem dXB_copyEnds_35 : decode cXB_copyEnds 35 = .ok (.return_, 1) := by decide +kernel
theorem dXB_scaledSum_0 : decode cXB_scaledSum 0 = .ok (.lconst 0, 1) := by decide +kernel
theorem dXB_scaledSum_1 : decode cXB_scaledSum 1 = .ok (.lstore_n 3, 1) := by decide +kernel
theorem dXB_scaledSum_2 : decode cXB_scaledSum 2 = .ok (.iconst 0, 1) := by decide +kernel
theorem dXB_scaledSum_3 : decode cXB_scaledSum 3 = .ok (.istore 5, 2) := by decide +kernel
theorem dXB_scaledSum_5 : decode cXB_scaledSum 5 = .ok (.iload 5, 2) := by decide +kernel
theorem dXB_scaledSum_7 : decode cXB_scaledSum 7 = .ok (.bipush 8, 2) := by decide +kernel
theorem dXB_scaledSum_9 : decode cXB_scaledSum 9 = .ok (.if_icmp .ge 46, 3) := by decide +kernel
theorem dXB_scaledSum_12 : decode cXB_scaledSum 12 = .ok (.iload 5, 2) := by decide +kernel
theorem dXB_scaledSum_14 : decode cXB_scaledSum 14 = .ok (.aload_n 2, 1) := by decide +kernel
theorem dXB_scaledSum_15 : decode cXB_scaledSum 15 = .ok (.arraylength, 1) := by decide +kernel
theorem dXB_scaledSum_16 : decode cXB_scaledSum 16 = .ok (.if_icmp .ge 39, 3) := by decide +kernel
theorem dXB_scaledSum_19 : decode cXB_scaledSum 19 = .ok (.aload_n 0, 1) := by decide +kernel
theorem dXB_scaledSum_20 : decode cXB_scaledSum 20 = .ok (.iload_n 1, 1) := by decide +kernel
theorem dXB_scaledSum_21 : decode cXB_scaledSum 21 = .ok (.iload 5, 2) := by decide +kernel
theorem dXB_scaledSum_23 : decode cXB_scaledSum 23 = .ok (.invokevirtual 74, 3) := by decide +kernel
theorem dXB_scaledSum_26 : decode cXB_scaledSum 26 = .ok (.istore 6, 2) := by decide +kernel
theorem dXB_scaledSum_28 : decode cXB_scaledSum 28 = .ok (.iload 6, 2) := by decide +kernel
theorem dXB_scaledSum_30 : decode cXB_scaledSum 30 = .ok (.ifCond .le 19, 3) := by decide +kernel
theorem dXB_scaledSum_33 : decode cXB_scaledSum 33 = .ok (.lload_n 3, 1) := by decide +kernel
theorem dXB_scaledSum_34 : decode cXB_scaledSum 34 = .ok (.aload_n 2, 1) := by decide +kernel
theorem dXB_scaledSum_35 : decode cXB_scaledSum 35 = .ok (.iload 5, 2) := by decide +kernel
theorem dXB_scaledSum_37 : decode cXB_scaledSum 37 = .ok (.iaload, 1) := by decide +kernel
theorem dXB_scaledSum_38 : decode cXB_scaledSum 38 = .ok (.i2l, 1) := by decide +kernel
theorem dXB_scaledSum_39 : decode cXB_scaledSum 39 = .ok (.ldc2_w 78, 3) := by decide +kernel
theorem dXB_scaledSum_42 : decode cXB_scaledSum 42 = .ok (.iload 6, 2) := by decide +kernel
theorem dXB_scaledSum_44 : decode cXB_scaledSum 44 = .ok (.i2l, 1) := by decide +kernel
theorem dXB_scaledSum_45 : decode cXB_scaledSum 45 = .ok (.ldiv, 1) := by decide +kernel
theorem dXB_scaledSum_46 : decode cXB_scaledSum 46 = .ok (.lmul, 1) := by decide +kernel
theorem dXB_scaledSum_47 : decode cXB_scaledSum 47 = .ok (.ladd, 1) := by decide +kernel
theorem dXB_scaledSum_48 : decode cXB_scaledSum 48 = .ok (.lstore_n 3, 1) := by decide +kernel
theorem dXB_scaledSum_49 : decode cXB_scaledSum 49 = .ok (.iinc 5 1, 3) := by decide +kernel
theorem dXB_scaledSum_52 : decode cXB_scaledSum 52 = .ok (.goto (-47), 3) := by decide +kernel
theorem dXB_scaledSum_55 : decode cXB_scaledSum 55 = .ok (.lload_n 3, 1) := by decide +kernel
theorem dXB_scaledSum_56 : decode cXB_scaledSum 56 = .ok (.lreturn, 1) := by decide +kernel
theorem dXG_inLowestTerms_0 : decode cXG_inLowestTerms 0 = .ok (.lload_n 0, 1) := by decide +kernel
theorem dXG_inLowestTerms_1 : decode cXG_inLowestTerms 1 = .ok (.ldc2_w 180, 3) := by decide +kernel
theorem dXG_inLowestTerms_4 : decode cXG_inLowestTerms 4 = .ok (.invokestatic 182, 3) := by decide +kernel
theorem dXG_inLowestTerms_7 : decode cXG_inLowestTerms 7 = .ok (.lstore_n 3, 1) := by decide +kernel
theorem dXG_inLowestTerms_8 : decode cXG_inLowestTerms 8 = .ok (.lload_n 3, 1) := by decide +kernel
theorem dXG_inLowestTerms_9 : decode cXG_inLowestTerms 9 = .ok (.lconst 1, 1) := by decide +kernel
theorem dXG_inLowestTerms_10 : decode cXG_inLowestTerms 10 = .ok (.lcmp, 1) := by decide +kernel
theorem dXG_inLowestTerms_11 : decode cXG_inLowestTerms 11 = .ok (.ifCond .ge 5, 3) := by decide +kernel
theorem dXG_inLowestTerms_14 : decode cXG_inLowestTerms 14 = .ok (.lconst 0, 1) := by decide +kernel
theorem dXG_inLowestTerms_15 : decode cXG_inLowestTerms 15 = .ok (.lreturn, 1) := by decide +kernel
theorem dXG_inLowestTerms_16 : decode cXG_inLowestTerms 16 = .ok (.iload_n 2, 1) := by decide +kernel
theorem dXG_inLowestTerms_17 : decode cXG_inLowestTerms 17 = .ok (.ifCond .ne 7, 3) := by decide +kernel
theorem dXG_inLowestTerms_20 : decode cXG_inLowestTerms 20 = .ok (.lload_n 0, 1) := by decide +kernel
theorem dXG_inLowestTerms_21 : decode cXG_inLowestTerms 21 = .ok (.goto 6, 3) := by decide +kernel
theorem dXG_inLowestTerms_24 : decode cXG_inLowestTerms 24 = .ok (.ldc2_w 180, 3) := by decide +kernel
theorem dXG_inLowestTerms_27 : decode cXG_inLowestTerms 27 = .ok (.lload_n 3, 1) := by decide +kernel
theorem dXG_inLowestTerms_28 : decode cXG_inLowestTerms 28 = .ok (.ldiv, 1) := by decide +kernel
theorem dXG_inLowestTerms_29 : decode cXG_inLowestTerms 29 = .ok (.lreturn, 1) := by decide +kernel
theorem dXG_greatestDivisor_0 : decode cXG_greatestDivisor 0 = .ok (.lload_n 0, 1) := by decide +kernel
theorem dXG_greatestDivisor_1 : decode cXG_greatestDivisor 1 = .ok (.lstore 4, 2) := by decide +kernel
theorem dXG_greatestDivisor_3 : decode cXG_greatestDivisor 3 = .ok (.lload_n 2, 1) := by decide +kernel
theorem dXG_greatestDivisor_4 : decode cXG_greatestDivisor 4 = .ok (.lstore 6, 2) := by decide +kernel
theorem dXG_greatestDivisor_6 : decode cXG_greatestDivisor 6 = .ok (.iconst 0, 1) := by decide +kernel
theorem dXG_greatestDivisor_7 : decode cXG_greatestDivisor 7 = .ok (.istore 8, 2) := by decide +kernel
theorem dXG_greatestDivisor_9 : decode cXG_greatestDivisor 9 = .ok (.iload 8, 2) := by decide +kernel
theorem dXG_greatestDivisor_11 : decode cXG_greatestDivisor 11 = .ok (.bipush 100, 2) := by decide +kernel
theorem dXG_greatestDivisor_13 : decode cXG_greatestDivisor 13 = .ok (.if_icmp .ge 31, 3) := by decide +kernel
theorem dXG_greatestDivisor_16 : decode cXG_greatestDivisor 16 = .ok (.lload 6, 2) := by decide +kernel
theorem dXG_greatestDivisor_18 : decode cXG_greatestDivisor 18 = .ok (.lconst 0, 1) := by decide +kernel
theorem dXG_greatestDivisor_19 : decode cXG_greatestDivisor 19 = .ok (.lcmp, 1) := by decide +kernel
theorem dXG_greatestDivisor_20 : decode cXG_greatestDivisor 20 = .ok (.ifCond .eq 24, 3) := by decide +kernel
theorem dXG_greatestDivisor_23 : decode cXG_greatestDivisor 23 = .ok (.lload 4, 2) := by decide +kernel
theorem dXG_greatestDivisor_25 : decode cXG_greatestDivisor 25 = .ok (.lload 6, 2) := by decide +kernel
theorem dXG_greatestDivisor_27 : decode cXG_greatestDivisor 27 = .ok (.lrem, 1) := by decide +kernel
theorem dXG_greatestDivisor_28 : decode cXG_greatestDivisor 28 = .ok (.lstore 9, 2) := by decide +kernel
theorem dXG_greatestDivisor_30 : decode cXG_greatestDivisor 30 = .ok (.lload 6, 2) := by decide +kernel
theorem dXG_greatestDivisor_32 : decode cXG_greatestDivisor 32 = .ok (.lstore 4, 2) := by decide +kernel
theorem dXG_greatestDivisor_34 : decode cXG_greatestDivisor 34 = .ok (.lload 9, 2) := by decide +kernel
theorem dXG_greatestDivisor_36 : decode cXG_greatestDivisor 36 = .ok (.lstore 6, 2) := by decide +kernel
theorem dXG_greatestDivisor_38 : decode cXG_greatestDivisor 38 = .ok (.iinc 8 1, 3) := by decide +kernel
theorem dXG_greatestDivisor_41 : decode cXG_greatestDivisor 41 = .ok (.goto (-32), 3) := by decide +kernel
theorem dXG_greatestDivisor_44 : decode cXG_greatestDivisor 44 = .ok (.lload 4, 2) := by decide +kernel
theorem dXG_greatestDivisor_46 : decode cXG_greatestDivisor 46 = .ok (.lreturn, 1) := by decide +kernel
theorem dXG_share_0 : decode cXG_share 0 = .ok (.iload_n 1, 1) := by decide +kernel
theorem dXG_share_1 : decode cXG_share 1 = .ok (.bipush 8, 2) := by decide +kernel
theorem dXG_share_3 : decode cXG_share 3 = .ok (.invokestatic 93, 3) := by decide +kernel
theorem dXG_share_6 : decode cXG_share 6 = .ok (.iload_n 2, 1) := by decide +kernel
theorem dXG_share_7 : decode cXG_share 7 = .ok (.ifCond .lt 9, 3) := by decide +kernel
theorem dXG_share_10 : decode cXG_share 10 = .ok (.iload_n 2, 1) := by decide +kernel
theorem dXG_share_11 : decode cXG_share 11 = .ok (.ldc 120, 2) := by decide +kernel
end
section
theorem dXG_share_13 : decode cXG_share 13 = .ok (.if_icmp .le 13, 3) := by decide +kernel
theorem dXG_share_16 : decode cXG_share 16 = .ok (.new 49, 3) := by decide +kernel
theorem dXG_share_19 : decode cXG_share 19 = .ok (.dup, 1) := by decide +kernel
theorem dXG_share_20 : decode cXG_share 20 = .ok (.ldc 121, 2) := by decide +kernel
theorem dXG_share_22 : decode cXG_share 22 = .ok (.invokespecial 53, 3) := by decide +kernel
theorem dXG_share_25 : decode cXG_share 25 = .ok (.athrow, 1) := by decide +kernel
theorem dXG_share_26 : decode cXG_share 26 = .ok (.aload_n 0, 1) := by decide +kernel
theorem dXG_share_27 : decode cXG_share 27 = .ok (.getfield 32, 3) := by decide +kernel
theorem dXG_share_30 : decode cXG_share 30 = .ok (.iload_n 1, 1) := by decide +kernel
theorem dXG_share_31 : decode cXG_share 31 = .ok (.iload_n 2, 1) := by decide +kernel
theorem dXG_share_32 : decode cXG_share 32 = .ok (.iastore, 1) := by decide +kernel
theorem dXG_share_33 : decode cXG_share 33 = .ok (.return_, 1) := by decide +kernel
theorem dXG_value_0 : decode cXG_value 0 = .ok (.iload_n 1, 1) := by decide +kernel
theorem dXG_value_1 : decode cXG_value 1 = .ok (.iconst 4, 1) := by decide +kernel
theorem dXG_value_2 : decode cXG_value 2 = .ok (.invokestatic 93, 3) := by decide +kernel
theorem dXG_value_5 : decode cXG_value 5 = .ok (.iload_n 2, 1) := by decide +kernel
theorem dXG_value_6 : decode cXG_value 6 = .ok (.iconst 2, 1) := by decide +kernel
theorem dXG_value_7 : decode cXG_value 7 = .ok (.invokestatic 93, 3) := by decide +kernel
theorem dXG_value_10 : decode cXG_value 10 = .ok (.aload_n 0, 1) := by decide +kernel
theorem dXG_value_11 : decode cXG_value 11 = .ok (.iload_n 1, 1) := by decide +kernel
theorem dXG_value_12 : decode cXG_value 12 = .ok (.invokevirtual 105, 3) := by decide +kernel
theorem dXG_value_15 : decode cXG_value 15 = .ok (.aload_n 0, 1) := by decide +kernel
theorem dXG_value_16 : decode cXG_value 16 = .ok (.getfield 42, 3) := by decide +kernel
theorem dXG_value_19 : decode cXG_value 19 = .ok (.iload_n 1, 1) := by decide +kernel
theorem dXG_value_20 : decode cXG_value 20 = .ok (.aload_n 0, 1) := by decide +kernel
theorem dXG_value_21 : decode cXG_value 21 = .ok (.getfield 32, 3) := by decide +kernel
theorem dXG_value_24 : decode cXG_value 24 = .ok (.invokevirtual 112, 3) := by decide +kernel
theorem dXG_value_27 : decode cXG_value 27 = .ok (.iload_n 2, 1) := by decide +kernel
theorem dXG_value_28 : decode cXG_value 28 = .ok (.invokestatic 116, 3) := by decide +kernel
theorem dXG_value_31 : decode cXG_value 31 = .ok (.lreturn, 1) := by decide +kernel
theorem dXG_fits_0 : decode cXG_fits 0 = .ok (.aload_n 0, 1) := by decide +kernel
theorem dXG_fits_1 : decode cXG_fits 1 = .ok (.iload_n 1, 1) := by decide +kernel
theorem dXG_fits_2 : decode cXG_fits 2 = .ok (.invokevirtual 89, 3) := by decide +kernel
theorem dXG_fits_5 : decode cXG_fits 5 = .ok (.iconst 0, 1) := by decide +kernel
theorem dXG_fits_6 : decode cXG_fits 6 = .ok (.istore_n 2, 1) := by decide +kernel
theorem dXG_fits_7 : decode cXG_fits 7 = .ok (.iload_n 2, 1) := by decide +kernel
theorem dXG_fits_8 : decode cXG_fits 8 = .ok (.bipush 8, 2) := by decide +kernel
theorem dXG_fits_10 : decode cXG_fits 10 = .ok (.if_icmp .ge 46, 3) := by decide +kernel
theorem dXG_fits_13 : decode cXG_fits 13 = .ok (.aload_n 0, 1) := by decide +kernel
theorem dXG_fits_14 : decode cXG_fits 14 = .ok (.getfield 32, 3) := by decide +kernel
theorem dXG_fits_17 : decode cXG_fits 17 = .ok (.iload_n 2, 1) := by decide +kernel
theorem dXG_fits_18 : decode cXG_fits 18 = .ok (.iaload, 1) := by decide +kernel
theorem dXG_fits_19 : decode cXG_fits 19 = .ok (.istore_n 3, 1) := by decide +kernel
theorem dXG_fits_20 : decode cXG_fits 20 = .ok (.iload_n 3, 1) := by decide +kernel
theorem dXG_fits_21 : decode cXG_fits 21 = .ok (.aload_n 0, 1) := by decide +kernel
theorem dXG_fits_22 : decode cXG_fits 22 = .ok (.getfield 42, 3) := by decide +kernel
theorem dXG_fits_25 : decode cXG_fits 25 = .ok (.iload_n 1, 1) := by decide +kernel
theorem dXG_fits_26 : decode cXG_fits 26 = .ok (.iload_n 2, 1) := by decide +kernel
theorem dXG_fits_27 : decode cXG_fits 27 = .ok (.iconst 0, 1) := by decide +kernel
theorem dXG_fits_28 : decode cXG_fits 28 = .ok (.invokevirtual 97, 3) := by decide +kernel
theorem dXG_fits_31 : decode cXG_fits 31 = .ok (.if_icmp .lt 17, 3) := by decide +kernel
theorem dXG_fits_34 : decode cXG_fits 34 = .ok (.iload_n 3, 1) := by decide +kernel
theorem dXG_fits_35 : decode cXG_fits 35 = .ok (.aload_n 0, 1) := by decide +kernel
theorem dXG_fits_36 : decode cXG_fits 36 = .ok (.getfield 42, 3) := by decide +kernel
theorem dXG_fits_39 : decode cXG_fits 39 = .ok (.iload_n 1, 1) := by decide +kernel
theorem dXG_fits_40 : decode cXG_fits 40 = .ok (.iload_n 2, 1) := by decide +kernel
theorem dXG_fits_41 : decode cXG_fits 41 = .ok (.iconst 1, 1) := by decide +kernel
theorem dXG_fits_42 : decode cXG_fits 42 = .ok (.invokevirtual 97, 3) := by decide +kernel
theorem dXG_fits_45 : decode cXG_fits 45 = .ok (.if_icmp .le 5, 3) := by decide +kernel
theorem dXG_fits_48 : decode cXG_fits 48 = .ok (.iload_n 2, 1) := by decide +kernel
theorem dXG_fits_49 : decode cXG_fits 49 = .ok (.ireturn, 1) := by decide +kernel
theorem dXG_fits_50 : decode cXG_fits 50 = .ok (.iinc 2 1, 3) := by decide +kernel
theorem dXG_fits_53 : decode cXG_fits 53 = .ok (.goto (-46), 3) := by decide +kernel
theorem dXG_fits_56 : decode cXG_fits 56 = .ok (.aload_n 0, 1) := by decide +kernel
theorem dXG_fits_57 : decode cXG_fits 57 = .ok (.getfield 42, 3) := by decide +kernel
theorem dXG_fits_60 : decode cXG_fits 60 = .ok (.iload_n 1, 1) := by decide +kernel
theorem dXG_fits_61 : decode cXG_fits 61 = .ok (.aload_n 0, 1) := by decide +kernel
theorem dXG_fits_62 : decode cXG_fits 62 = .ok (.getfield 32, 3) := by decide +kernel
theorem dXG_fits_65 : decode cXG_fits 65 = .ok (.invokevirtual 123, 3) := by decide +kernel
theorem dXG_fits_68 : decode cXG_fits 68 = .ok (.istore_n 2, 1) := by decide +kernel
theorem dXG_fits_69 : decode cXG_fits 69 = .ok (.iload_n 2, 1) := by decide +kernel
theorem dXG_fits_70 : decode cXG_fits 70 = .ok (.iconst (-1), 1) := by decide +kernel
theorem dXG_fits_71 : decode cXG_fits 71 = .ok (.if_icmp .ne 7, 3) := by decide +kernel
theorem dXG_fits_74 : decode cXG_fits 74 = .ok (.iconst (-1), 1) := by decide +kernel
theorem dXG_fits_75 : decode cXG_fits 75 = .ok (.goto 7, 3) := by decide +kernel
theorem dXG_fits_78 : decode cXG_fits 78 = .ok (.bipush 8, 2) := by decide +kernel
theorem dXG_fits_80 : decode cXG_fits 80 = .ok (.iload_n 2, 1) := by decide +kernel
theorem dXG_fits_81 : decode cXG_fits 81 = .ok (.iadd, 1) := by decide +kernel
theorem dXG_fits_82 : decode cXG_fits 82 = .ok (.ireturn, 1) := by decide +kernel
theorem dXB_firstKindAbove_0 : decode cXB_firstKindAbove 0 = .ok (.iconst 0, 1) := by decide +kernel
theorem dXB_firstKindAbove_1 : decode cXB_firstKindAbove 1 = .ok (.istore_n 3, 1) := by decide +kernel
theorem dXB_firstKindAbove_2 : decode cXB_firstKindAbove 2 = .ok (.iload_n 3, 1) := by decide +kernel
theorem dXB_firstKindAbove_3 : decode cXB_firstKindAbove 3 = .ok (.iconst 4, 1) := by decide +kernel
theorem dXB_firstKindAbove_4 : decode cXB_firstKindAbove 4 = .ok (.if_icmp .ge 50, 3) := by decide +kernel
theorem dXB_firstKindAbove_7 : decode cXB_firstKindAbove 7 = .ok (.aload_n 0, 1) := by decide +kernel
theorem dXB_firstKindAbove_8 : decode cXB_firstKindAbove 8 = .ok (.iload_n 1, 1) := by decide +kernel
theorem dXB_firstKindAbove_9 : decode cXB_firstKindAbove 9 = .ok (.iload_n 3, 1) := by decide +kernel
theorem dXB_firstKindAbove_10 : decode cXB_firstKindAbove 10 = .ok (.invokevirtual 80, 3) := by decide +kernel
theorem dXB_firstKindAbove_13 : decode cXB_firstKindAbove 13 = .ok (.istore 4, 2) := by decide +kernel
theorem dXB_firstKindAbove_15 : decode cXB_firstKindAbove 15 = .ok (.aload_n 0, 1) := by decide +kernel
theorem dXB_firstKindAbove_16 : decode cXB_firstKindAbove 16 = .ok (.iload_n 3, 1) := by decide +kernel
theorem dXB_firstKindAbove_17 : decode cXB_firstKindAbove 17 = .ok (.invokevirtual 83, 3) := by decide +kernel
theorem dXB_firstKindAbove_20 : decode cXB_firstKindAbove 20 = .ok (.ifCond .eq 28, 3) := by decide +kernel
theorem dXB_firstKindAbove_23 : decode cXB_firstKindAbove 23 = .ok (.iload 4, 2) := by decide +kernel
theorem dXB_firstKindAbove_25 : decode cXB_firstKindAbove 25 = .ok (.iconst (-1), 1) := by decide +kernel
theorem dXB_firstKindAbove_26 : decode cXB_firstKindAbove 26 = .ok (.if_icmp .eq 22, 3) := by decide +kernel
theorem dXB_firstKindAbove_29 : decode cXB_firstKindAbove 29 = .ok (.aload_n 0, 1) := by decide +kernel
theorem dXB_firstKindAbove_30 : decode cXB_firstKindAbove 30 = .ok (.iload_n 3, 1) := by decide +kernel
theorem dXB_firstKindAbove_31 : decode cXB_firstKindAbove 31 = .ok (.aload_n 2, 1) := by decide +kernel
theorem dXB_firstKindAbove_32 : decode cXB_firstKindAbove 32 = .ok (.invokevirtual 86, 3) := by decide +kernel
theorem dXB_firstKindAbove_35 : decode cXB_firstKindAbove 35 = .ok (.iload 4, 2) := by decide +kernel
theorem dXB_firstKindAbove_37 : decode cXB_firstKindAbove 37 = .ok (.i2l, 1) := by decide +kernel
theorem dXB_firstKindAbove_38 : decode cXB_firstKindAbove 38 = .ok (.ldc2_w 78, 3) := by decide +kernel
theorem dXB_firstKindAbove_41 : decode cXB_firstKindAbove 41 = .ok (.lmul, 1) := by decide +kernel
theorem dXB_firstKindAbove_42 : decode cXB_firstKindAbove 42 = .ok (.lcmp, 1) := by decide +kernel
theorem dXB_firstKindAbove_43 : decode cXB_firstKindAbove 43 = .ok (.ifCond .le 5, 3) := by decide +kernel
theorem dXB_firstKindAbove_46 : decode cXB_firstKindAbove 46 = .ok (.iload_n 3, 1) := by decide +kernel
theorem dXB_firstKindAbove_47 : decode cXB_firstKindAbove 47 = .ok (.ireturn, 1) := by decide +kernel
theorem dXB_firstKindAbove_48 : decode cXB_firstKindAbove 48 = .ok (.iinc 3 1, 3) := by decide +kernel
theorem dXB_firstKindAbove_51 : decode cXB_firstKindAbove 51 = .ok (.goto (-49), 3) := by decide +kernel
theorem dXB_firstKindAbove_54 : decode cXB_firstKindAbove 54 = .ok (.iconst (-1), 1) := by decide +kernel
theorem dXB_firstKindAbove_55 : decode cXB_firstKindAbove 55 = .ok (.ireturn, 1) := by decide +kernel
theorem dXG_holds_0 : decode cXG_holds 0 = .ok (.aload_n 0, 1) := by decide +kernel
theorem dXG_holds_1 : decode cXG_holds 1 = .ok (.iload_n 1, 1) := by decide +kernel
theorem dXG_holds_2 : decode cXG_holds 2 = .ok (.invokevirtual 89, 3) := by decide +kernel
theorem dXG_holds_5 : decode cXG_holds 5 = .ok (.aload_n 0, 1) := by decide +kernel
theorem dXG_holds_6 : decode cXG_holds 6 = .ok (.iload_n 2, 1) := by decide +kernel
theorem dXG_holds_7 : decode cXG_holds 7 = .ok (.invokevirtual 89, 3) := by decide +kernel
theorem dXG_holds_10 : decode cXG_holds 10 = .ok (.iconst 0, 1) := by decide +kernel
theorem dXG_holds_11 : decode cXG_holds 11 = .ok (.istore_n 3, 1) := by decide +kernel
theorem dXG_holds_12 : decode cXG_holds 12 = .ok (.iload_n 3, 1) := by decide +kernel
theorem dXG_holds_13 : decode cXG_holds 13 = .ok (.bipush 8, 2) := by decide +kernel
theorem dXG_holds_15 : decode cXG_holds 15 = .ok (.if_icmp .ge 57, 3) := by decide +kernel
theorem dXG_holds_18 : decode cXG_holds 18 = .ok (.aload_n 0, 1) := by decide +kernel
theorem dXG_holds_19 : decode cXG_holds 19 = .ok (.getfield 42, 3) := by decide +kernel
theorem dXG_holds_22 : decode cXG_holds 22 = .ok (.iload_n 2, 1) := by decide +kernel
theorem dXG_holds_23 : decode cXG_holds 23 = .ok (.iload_n 3, 1) := by decide +kernel
theorem dXG_holds_24 : decode cXG_holds 24 = .ok (.iconst 0, 1) := by decide +kernel
theorem dXG_holds_25 : decode cXG_holds 25 = .ok (.invokevirtual 97, 3) := by decide +kernel
theorem dXG_holds_28 : decode cXG_holds 28 = .ok (.aload_n 0, 1) := by decide +kernel
theorem dXG_holds_29 : decode cXG_holds 29 = .ok (.getfield 42, 3) := by decide +kernel
theorem dXG_holds_32 : decode cXG_holds 32 = .ok (.iload_n 1, 1) := by decide +kernel
theorem dXG_holds_33 : decode cXG_holds 33 = .ok (.iload_n 3, 1) := by decide +kernel
theorem dXG_holds_34 : decode cXG_holds 34 = .ok (.iconst 0, 1) := by decide +kernel
theorem dXG_holds_35 : decode cXG_holds 35 = .ok (.invokevirtual 97, 3) := by decide +kernel
theorem dXG_holds_38 : decode cXG_holds 38 = .ok (.if_icmp .lt 26, 3) := by decide +kernel
theorem dXG_holds_41 : decode cXG_holds 41 = .ok (.aload_n 0, 1) := by decide +kernel
theorem dXG_holds_42 : decode cXG_holds 42 = .ok (.getfield 42, 3) := by decide +kernel
theorem dXG_holds_45 : decode cXG_holds 45 = .ok (.iload_n 2, 1) := by decide +kernel
theorem dXG_holds_46 : decode cXG_holds 46 = .ok (.iload_n 3, 1) := by decide +kernel
theorem dXG_holds_47 : decode cXG_holds 47 = .ok (.iconst 1, 1) := by decide +kernel
theorem dXG_holds_48 : decode cXG_holds 48 = .ok (.invokevirtual 97, 3) := by decide +kernel
theorem dXG_holds_51 : decode cXG_holds 51 = .ok (.aload_n 0, 1) := by decide +kernel
theorem dXG_holds_52 : decode cXG_holds 52 = .ok (.getfield 42, 3) := by decide +kernel
theorem dXG_holds_55 : decode cXG_holds 55 = .ok (.iload_n 1, 1) := by decide +kernel
theorem dXG_holds_56 : decode cXG_holds 56 = .ok (.iload_n 3, 1) := by decide +kernel
theorem dXG_holds_57 : decode cXG_holds 57 = .ok (.iconst 1, 1) := by decide +kernel
theorem dXG_holds_58 : decode cXG_holds 58 = .ok (.invokevirtual 97, 3) := by decide +kernel
theorem dXG_holds_61 : decode cXG_holds 61 = .ok (.if_icmp .le 5, 3) := by decide +kernel
theorem dXG_holds_64 : decode cXG_holds 64 = .ok (.iconst 0, 1) := by decide +kernel
theorem dXG_holds_65 : decode cXG_holds 65 = .ok (.ireturn, 1) := by decide +kernel
theorem dXG_holds_66 : decode cXG_holds 66 = .ok (.iinc 3 1, 3) := by decide +kernel
theorem dXG_holds_69 : decode cXG_holds 69 = .ok (.goto (-57), 3) := by decide +kernel
theorem dXG_holds_72 : decode cXG_holds 72 = .ok (.aload_n 0, 1) := by decide +kernel
theorem dXG_holds_73 : decode cXG_holds 73 = .ok (.getfield 42, 3) := by decide +kernel
theorem dXG_holds_76 : decode cXG_holds 76 = .ok (.iload_n 2, 1) := by decide +kernel
theorem dXG_holds_77 : decode cXG_holds 77 = .ok (.iconst 1, 1) := by decide +kernel
theorem dXG_holds_78 : decode cXG_holds 78 = .ok (.aload_n 0, 1) := by decide +kernel
theorem dXG_holds_79 : decode cXG_holds 79 = .ok (.getfield 36, 3) := by decide +kernel
theorem dXG_holds_82 : decode cXG_holds 82 = .ok (.invokevirtual 108, 3) := by decide +kernel
theorem dXG_holds_85 : decode cXG_holds 85 = .ok (.aload_n 0, 1) := by decide +kernel
theorem dXG_holds_86 : decode cXG_holds 86 = .ok (.getfield 42, 3) := by decide +kernel
theorem dXG_holds_89 : decode cXG_holds 89 = .ok (.iload_n 1, 1) := by decide +kernel
theorem dXG_holds_90 : decode cXG_holds 90 = .ok (.aload_n 0, 1) := by decide +kernel
theorem dXG_holds_91 : decode cXG_holds 91 = .ok (.getfield 36, 3) := by decide +kernel
theorem dXG_holds_94 : decode cXG_holds 94 = .ok (.invokevirtual 123, 3) := by decide +kernel
theorem dXG_holds_97 : decode cXG_holds 97 = .ok (.iconst (-1), 1) := by decide +kernel
theorem dXG_holds_98 : decode cXG_holds 98 = .ok (.if_icmp .ne 7, 3) := by decide +kernel
theorem dXG_holds_101 : decode cXG_holds 101 = .ok (.iconst 1, 1) := by decide +kernel
theorem dXG_holds_102 : decode cXG_holds 102 = .ok (.goto 4, 3) := by decide +kernel
theorem dXG_holds_105 : decode cXG_holds 105 = .ok (.iconst 0, 1) := by decide +kernel
theorem dXG_holds_106 : decode cXG_holds 106 = .ok (.ireturn, 1) := by decide +kernel
theorem dXG_ring_0 : decode cXG_ring 0 = .ok (.iload_n 1, 1) := by decide +kernel
theorem dXG_ring_1 : decode cXG_ring 1 = .ok (.invokestatic 127, 3) := by decide +kernel
theorem dXG_ring_4 : decode cXG_ring 4 = .ok (.iload_n 1, 1) := by decide +kernel
theorem dXG_ring_5 : decode cXG_ring 5 = .ok (.istore_n 2, 1) := by decide +kernel
theorem dXG_ring_6 : decode cXG_ring 6 = .ok (.iconst 1, 1) := by decide +kernel
theorem dXG_ring_7 : decode cXG_ring 7 = .ok (.istore_n 3, 1) := by decide +kernel
theorem dXG_ring_8 : decode cXG_ring 8 = .ok (.iload_n 3, 1) := by decide +kernel
theorem dXG_ring_9 : decode cXG_ring 9 = .ok (.bipush 30, 2) := by decide +kernel
theorem dXG_ring_11 : decode cXG_ring 11 = .ok (.if_icmp .gt 29, 3) := by decide +kernel
theorem dXG_ring_14 : decode cXG_ring 14 = .ok (.aload_n 0, 1) := by decide +kernel
theorem dXG_ring_15 : decode cXG_ring 15 = .ok (.getfield 42, 3) := by decide +kernel
theorem dXG_ring_18 : decode cXG_ring 18 = .ok (.iload_n 3, 1) := by decide +kernel
theorem dXG_ring_19 : decode cXG_ring 19 = .ok (.invokevirtual 130, 3) := by decide +kernel
theorem dXG_ring_22 : decode cXG_ring 22 = .ok (.ifCond .eq 12, 3) := by decide +kernel
theorem dXG_ring_25 : decode cXG_ring 25 = .ok (.iload_n 2, 1) := by decide +kernel
theorem dXG_ring_26 : decode cXG_ring 26 = .ok (.ifCond .ne 5, 3) := by decide +kernel
theorem dXG_ring_29 : decode cXG_ring 29 = .ok (.iload_n 3, 1) := by decide +kernel
theorem dXG_ring_30 : decode cXG_ring 30 = .ok (.ireturn, 1) := by decide +kernel
theorem dXG_ring_31 : decode cXG_ring 31 = .ok (.iinc 2 (-1), 3) := by decide +kernel
theorem dXG_ring_34 : decode cXG_ring 34 = .ok (.iinc 3 1, 3) := by decide +kernel
theorem dXG_ring_37 : decode cXG_ring 37 = .ok (.goto (-29), 3) := by decide +kernel
theorem dXG_ring_40 : decode cXG_ring 40 = .ok (.iconst (-1), 1) := by decide +kernel
theorem dXG_ring_41 : decode cXG_ring 41 = .ok (.ireturn, 1) := by decide +kernel
theorem dXG_needPlace_0 : decode cXG_needPlace 0 = .ok (.iload_n 0, 1) := by decide +kernel
theorem dXG_needPlace_1 : decode cXG_needPlace 1 = .ok (.ifCond .ge 13, 3) := by decide +kernel
theorem dXG_needPlace_4 : decode cXG_needPlace 4 = .ok (.new 163, 3) := by decide +kernel
theorem dXG_needPlace_7 : decode cXG_needPlace 7 = .ok (.dup, 1) := by decide +kernel
theorem dXG_needPlace_8 : decode cXG_needPlace 8 = .ok (.ldc 170, 2) := by decide +kernel
theorem dXG_needPlace_10 : decode cXG_needPlace 10 = .ok (.invokespecial 167, 3) := by decide +kernel
theorem dXG_needPlace_13 : decode cXG_needPlace 13 = .ok (.athrow, 1) := by decide +kernel
theorem dXG_needPlace_14 : decode cXG_needPlace 14 = .ok (.return_, 1) := by decide +kernel
theorem dXG_route_0 : decode cXG_route 0 = .ok (.aload_n 0, 1) := by decide +kernel
theorem dXG_route_1 : decode cXG_route 1 = .ok (.iload_n 1, 1) := by decide +kernel
theorem dXG_route_2 : decode cXG_route 2 = .ok (.invokevirtual 89, 3) := by decide +kernel
theorem dXG_route_5 : decode cXG_route 5 = .ok (.iload_n 2, 1) := by decide +kernel
theorem dXG_route_6 : decode cXG_route 6 = .ok (.invokestatic 127, 3) := by decide +kernel
theorem dXG_route_9 : decode cXG_route 9 = .ok (.aload_n 0, 1) := by decide +kernel
theorem dXG_route_10 : decode cXG_route 10 = .ok (.getfield 42, 3) := by decide +kernel
theorem dXG_route_13 : decode cXG_route 13 = .ok (.iload_n 1, 1) := by decide +kernel
theorem dXG_route_14 : decode cXG_route 14 = .ok (.invokevirtual 133, 3) := by decide +kernel
theorem dXG_route_17 : decode cXG_route 17 = .ok (.istore_n 3, 1) := by decide +kernel
theorem dXG_route_18 : decode cXG_route 18 = .ok (.iload_n 2, 1) := by decide +kernel
theorem dXG_route_19 : decode cXG_route 19 = .ok (.istore 4, 2) := by decide +kernel
theorem dXG_route_21 : decode cXG_route 21 = .ok (.iconst 0, 1) := by decide +kernel
theorem dXG_route_22 : decode cXG_route 22 = .ok (.istore 5, 2) := by decide +kernel
theorem dXG_route_24 : decode cXG_route 24 = .ok (.iload 5, 2) := by decide +kernel
theorem dXG_route_26 : decode cXG_route 26 = .ok (.bipush 8, 2) := by decide +kernel
theorem dXG_route_28 : decode cXG_route 28 = .ok (.if_icmp .ge 29, 3) := by decide +kernel
theorem dXG_route_31 : decode cXG_route 31 = .ok (.iload_n 3, 1) := by decide +kernel
theorem dXG_route_32 : decode cXG_route 32 = .ok (.iload 5, 2) := by decide +kernel
theorem dXG_route_34 : decode cXG_route 34 = .ok (.invokestatic 137, 3) := by decide +kernel
theorem dXG_route_37 : decode cXG_route 37 = .ok (.ifCond .eq 14, 3) := by decide +kernel
theorem dXG_route_40 : decode cXG_route 40 = .ok (.iload 4, 2) := by decide +kernel
theorem dXG_route_42 : decode cXG_route 42 = .ok (.ifCond .ne 6, 3) := by decide +kernel
theorem dXG_route_45 : decode cXG_route 45 = .ok (.iload 5, 2) := by decide +kernel
theorem dXG_route_47 : decode cXG_route 47 = .ok (.ireturn, 1) := by decide +kernel
theorem dXG_route_48 : decode cXG_route 48 = .ok (.iinc 4 (-1), 3) := by decide +kernel
theorem dXG_route_51 : decode cXG_route 51 = .ok (.iinc 5 1, 3) := by decide +kernel
theorem dXG_route_54 : decode cXG_route 54 = .ok (.goto (-30), 3) := by decide +kernel
theorem dXG_route_57 : decode cXG_route 57 = .ok (.iconst (-1), 1) := by decide +kernel
theorem dXG_route_58 : decode cXG_route 58 = .ok (.ireturn, 1) := by decide +kernel
theorem dXB_routesOf_0 : decode cXB_routesOf 0 = .ok (.iload_n 1, 1) := by decide +kernel
theorem dXB_routesOf_1 : decode cXB_routesOf 1 = .ok (.istore_n 2, 1) := by decide +kernel
theorem dXB_routesOf_2 : decode cXB_routesOf 2 = .ok (.iconst 0, 1) := by decide +kernel
theorem dXB_routesOf_3 : decode cXB_routesOf 3 = .ok (.istore_n 3, 1) := by decide +kernel
theorem dXB_routesOf_4 : decode cXB_routesOf 4 = .ok (.iload_n 3, 1) := by decide +kernel
theorem dXB_routesOf_5 : decode cXB_routesOf 5 = .ok (.bipush 30, 2) := by decide +kernel
theorem dXB_routesOf_7 : decode cXB_routesOf 7 = .ok (.if_icmp .ge 29, 3) := by decide +kernel
theorem dXB_routesOf_10 : decode cXB_routesOf 10 = .ok (.iload_n 2, 1) := by decide +kernel
theorem dXB_routesOf_11 : decode cXB_routesOf 11 = .ok (.ifCond .le 25, 3) := by decide +kernel
theorem dXB_routesOf_14 : decode cXB_routesOf 14 = .ok (.aload_n 0, 1) := by decide +kernel
theorem dXB_routesOf_15 : decode cXB_routesOf 15 = .ok (.getfield 27, 3) := by decide +kernel
theorem dXB_routesOf_18 : decode cXB_routesOf 18 = .ok (.iload_n 2, 1) := by decide +kernel
theorem dXB_routesOf_19 : decode cXB_routesOf 19 = .ok (.iaload, 1) := by decide +kernel
theorem dXB_routesOf_20 : decode cXB_routesOf 20 = .ok (.ifCond .ne 16, 3) := by decide +kernel
theorem dXB_routesOf_23 : decode cXB_routesOf 23 = .ok (.aload_n 0, 1) := by decide +kernel
theorem dXB_routesOf_24 : decode cXB_routesOf 24 = .ok (.getfield 15, 3) := by decide +kernel
theorem dXB_routesOf_27 : decode cXB_routesOf 27 = .ok (.iload_n 2, 1) := by decide +kernel
theorem dXB_routesOf_28 : decode cXB_routesOf 28 = .ok (.iaload, 1) := by decide +kernel
theorem dXB_routesOf_29 : decode cXB_routesOf 29 = .ok (.istore_n 2, 1) := by decide +kernel
theorem dXB_routesOf_30 : decode cXB_routesOf 30 = .ok (.iinc 3 1, 3) := by decide +kernel
theorem dXB_routesOf_33 : decode cXB_routesOf 33 = .ok (.goto (-29), 3) := by decide +kernel
theorem dXB_routesOf_36 : decode cXB_routesOf 36 = .ok (.iload_n 2, 1) := by decide +kernel
theorem dXB_routesOf_37 : decode cXB_routesOf 37 = .ok (.ifCond .ne 7, 3) := by decide +kernel
theorem dXB_routesOf_40 : decode cXB_routesOf 40 = .ok (.iconst 0, 1) := by decide +kernel
theorem dXB_routesOf_41 : decode cXB_routesOf 41 = .ok (.goto 9, 3) := by decide +kernel
theorem dXB_routesOf_44 : decode cXB_routesOf 44 = .ok (.aload_n 0, 1) := by decide +kernel
theorem dXB_routesOf_45 : decode cXB_routesOf 45 = .ok (.getfield 27, 3) := by decide +kernel
theorem dXB_routesOf_48 : decode cXB_routesOf 48 = .ok (.iload_n 2, 1) := by decide +kernel
theorem dXB_routesOf_49 : decode cXB_routesOf 49 = .ok (.iaload, 1) := by decide +kernel
theorem dXB_routesOf_50 : decode cXB_routesOf 50 = .ok (.ireturn, 1) := by decide +kernel
theorem dXG_difference_0 : decode cXG_difference 0 = .ok (.aload_n 0, 1) := by decide +kernel
theorem dXG_difference_1 : decode cXG_difference 1 = .ok (.iload_n 1, 1) := by decide +kernel
theorem dXG_difference_2 : decode cXG_difference 2 = .ok (.invokevirtual 89, 3) := by decide +kernel
theorem dXG_difference_5 : decode cXG_difference 5 = .ok (.aload_n 0, 1) := by decide +kernel
theorem dXG_difference_6 : decode cXG_difference 6 = .ok (.iload_n 2, 1) := by decide +kernel
theorem dXG_difference_7 : decode cXG_difference 7 = .ok (.invokevirtual 89, 3) := by decide +kernel
theorem dXG_difference_10 : decode cXG_difference 10 = .ok (.iload_n 3, 1) := by decide +kernel
theorem dXG_difference_11 : decode cXG_difference 11 = .ok (.invokestatic 127, 3) := by decide +kernel
theorem dXG_difference_14 : decode cXG_difference 14 = .ok (.iload_n 3, 1) := by decide +kernel
theorem dXG_difference_15 : decode cXG_difference 15 = .ok (.istore 4, 2) := by decide +kernel
theorem dXG_difference_17 : decode cXG_difference 17 = .ok (.iconst 0, 1) := by decide +kernel
theorem dXG_difference_18 : decode cXG_difference 18 = .ok (.istore 5, 2) := by decide +kernel
theorem dXG_difference_20 : decode cXG_difference 20 = .ok (.iload 5, 2) := by decide +kernel
theorem dXG_difference_22 : decode cXG_difference 22 = .ok (.bipush 8, 2) := by decide +kernel
theorem dXG_difference_24 : decode cXG_difference 24 = .ok (.if_icmp .ge 70, 3) := by decide +kernel
theorem dXG_difference_27 : decode cXG_difference 27 = .ok (.aload_n 0, 1) := by decide +kernel
theorem dXG_difference_28 : decode cXG_difference 28 = .ok (.getfield 42, 3) := by decide +kernel
theorem dXG_difference_31 : decode cXG_difference 31 = .ok (.iload_n 1, 1) := by decide +kernel
theorem dXG_difference_32 : decode cXG_difference 32 = .ok (.iload 5, 2) := by decide +kernel
theorem dXG_difference_34 : decode cXG_difference 34 = .ok (.iconst 0, 1) := by decide +kernel
theorem dXG_difference_35 : decode cXG_difference 35 = .ok (.invokevirtual 97, 3) := by decide +kernel
theorem dXG_difference_38 : decode cXG_difference 38 = .ok (.aload_n 0, 1) := by decide +kernel
theorem dXG_difference_39 : decode cXG_difference 39 = .ok (.getfield 42, 3) := by decide +kernel
theorem dXG_difference_42 : decode cXG_difference 42 = .ok (.iload_n 2, 1) := by decide +kernel
theorem dXG_difference_43 : decode cXG_difference 43 = .ok (.iload 5, 2) := by decide +kernel
theorem dXG_difference_45 : decode cXG_difference 45 = .ok (.iconst 0, 1) := by decide +kernel
theorem dXG_difference_46 : decode cXG_difference 46 = .ok (.invokevirtual 97, 3) := by decide +kernel
theorem dXG_difference_49 : decode cXG_difference 49 = .ok (.if_icmp .ne 28, 3) := by decide +kernel
theorem dXG_difference_52 : decode cXG_difference 52 = .ok (.aload_n 0, 1) := by decide +kernel
theorem dXG_difference_53 : decode cXG_difference 53 = .ok (.getfield 42, 3) := by decide +kernel
theorem dXG_difference_56 : decode cXG_difference 56 = .ok (.iload_n 1, 1) := by decide +kernel
theorem dXG_difference_57 : decode cXG_difference 57 = .ok (.iload 5, 2) := by decide +kernel
theorem dXG_difference_59 : decode cXG_difference 59 = .ok (.iconst 1, 1) := by decide +kernel
theorem dXG_difference_60 : decode cXG_difference 60 = .ok (.invokevirtual 97, 3) := by decide +kernel
theorem dXG_difference_63 : decode cXG_difference 63 = .ok (.aload_n 0, 1) := by decide +kernel
theorem dXG_difference_64 : decode cXG_difference 64 = .ok (.getfield 42, 3) := by decide +kernel
theorem dXG_difference_67 : decode cXG_difference 67 = .ok (.iload_n 2, 1) := by decide +kernel
theorem dXG_difference_68 : decode cXG_difference 68 = .ok (.iload 5, 2) := by decide +kernel
theorem dXG_difference_70 : decode cXG_difference 70 = .ok (.iconst 1, 1) := by decide +kernel
theorem dXG_difference_71 : decode cXG_difference 71 = .ok (.invokevirtual 97, 3) := by decide +kernel
theorem dXG_difference_74 : decode cXG_difference 74 = .ok (.if_icmp .eq 14, 3) := by decide +kernel
theorem dXG_difference_77 : decode cXG_difference 77 = .ok (.iload 4, 2) := by decide +kernel
theorem dXG_difference_79 : decode cXG_difference 79 = .ok (.ifCond .ne 6, 3) := by decide +kernel
theorem dXG_difference_82 : decode cXG_difference 82 = .ok (.iload 5, 2) := by decide +kernel
theorem dXG_difference_84 : decode cXG_difference 84 = .ok (.ireturn, 1) := by decide +kernel
theorem dXG_difference_85 : decode cXG_difference 85 = .ok (.iinc 4 (-1), 3) := by decide +kernel
theorem dXG_difference_88 : decode cXG_difference 88 = .ok (.iinc 5 1, 3) := by decide +kernel
theorem dXG_difference_91 : decode cXG_difference 91 = .ok (.goto (-71), 3) := by decide +kernel
theorem dXG_difference_94 : decode cXG_difference 94 = .ok (.iconst (-1), 1) := by decide +kernel
theorem dXG_difference_95 : decode cXG_difference 95 = .ok (.ireturn, 1) := by decide +kernel
theorem dXG_write_0 : decode cXG_write 0 = .ok (.aload_n 0, 1) := by decide +kernel
theorem dXG_write_1 : decode cXG_write 1 = .ok (.iload_n 1, 1) := by decide +kernel
theorem dXG_write_2 : decode cXG_write 2 = .ok (.invokevirtual 89, 3) := by decide +kernel
theorem dXG_write_5 : decode cXG_write 5 = .ok (.aload_n 0, 1) := by decide +kernel
theorem dXG_write_6 : decode cXG_write 6 = .ok (.getfield 28, 3) := by decide +kernel
theorem dXG_write_9 : decode cXG_write 9 = .ok (.invokevirtual 141, 3) := by decide +kernel
theorem dXG_write_12 : decode cXG_write 12 = .ok (.aload_n 0, 1) := by decide +kernel
theorem dXG_write_13 : decode cXG_write 13 = .ok (.getfield 42, 3) := by decide +kernel
theorem dXG_write_16 : decode cXG_write 16 = .ok (.iload_n 1, 1) := by decide +kernel
theorem dXG_write_17 : decode cXG_write 17 = .ok (.aload_n 0, 1) := by decide +kernel
theorem dXG_write_18 : decode cXG_write 18 = .ok (.getfield 28, 3) := by decide +kernel
theorem dXG_write_21 : decode cXG_write 21 = .ok (.invokevirtual 144, 3) := by decide +kernel
theorem dXG_write_24 : decode cXG_write 24 = .ok (.aload_n 0, 1) := by decide +kernel
theorem dXG_write_25 : decode cXG_write 25 = .ok (.getfield 28, 3) := by decide +kernel
theorem dXG_write_28 : decode cXG_write 28 = .ok (.invokevirtual 148, 3) := by decide +kernel
theorem dXG_write_31 : decode cXG_write 31 = .ok (.ireturn, 1) := by decide +kernel
theorem dXP_start_0 : decode cXP_start 0 = .ok (.aload_n 0, 1) := by decide +kernel
theorem dXP_start_1 : decode cXP_start 1 = .ok (.iconst 0, 1) := by decide +kernel
theorem dXP_start_2 : decode cXP_start 2 = .ok (.putfield 15, 3) := by decide +kernel
theorem dXP_start_5 : decode cXP_start 5 = .ok (.return_, 1) := by decide +kernel
theorem dXB_printRow_0 : decode cXB_printRow 0 = .ok (.aload_n 2, 1) := by decide +kernel
theorem dXB_printRow_1 : decode cXB_printRow 1 = .ok (.bipush 103, 2) := by decide +kernel
theorem dXB_printRow_3 : decode cXB_printRow 3 = .ok (.invokevirtual 90, 3) := by decide +kernel
theorem dXB_printRow_6 : decode cXB_printRow 6 = .ok (.aload_n 2, 1) := by decide +kernel
theorem dXB_printRow_7 : decode cXB_printRow 7 = .ok (.iload_n 1, 1) := by decide +kernel
theorem dXB_printRow_8 : decode cXB_printRow 8 = .ok (.invokevirtual 96, 3) := by decide +kernel
theorem dXB_printRow_11 : decode cXB_printRow 11 = .ok (.aload_n 0, 1) := by decide +kernel
theorem dXB_printRow_12 : decode cXB_printRow 12 = .ok (.getfield 9, 3) := by decide +kernel
theorem dXB_printRow_15 : decode cXB_printRow 15 = .ok (.iload_n 1, 1) := by decide +kernel
theorem dXB_printRow_16 : decode cXB_printRow 16 = .ok (.iaload, 1) := by decide +kernel
theorem dXB_printRow_17 : decode cXB_printRow 17 = .ok (.ifCond .le 19, 3) := by decide +kernel
theorem dXB_printRow_20 : decode cXB_printRow 20 = .ok (.aload_n 2, 1) := by decide +kernel
theorem dXB_printRow_21 : decode cXB_printRow 21 = .ok (.bipush 60, 2) := by decide +kernel
theorem dXB_printRow_23 : decode cXB_printRow 23 = .ok (.invokevirtual 90, 3) := by decide +kernel
theorem dXB_printRow_26 : decode cXB_printRow 26 = .ok (.aload_n 2, 1) := by decide +kernel
theorem dXB_printRow_27 : decode cXB_printRow 27 = .ok (.aload_n 0, 1) := by decide +kernel
theorem dXB_printRow_28 : decode cXB_printRow 28 = .ok (.getfield 9, 3) := by decide +kernel
theorem dXB_printRow_31 : decode cXB_printRow 31 = .ok (.iload_n 1, 1) := by decide +kernel
theorem dXB_printRow_32 : decode cXB_printRow 32 = .ok (.iaload, 1) := by decide +kernel
theorem dXB_printRow_33 : decode cXB_printRow 33 = .ok (.invokevirtual 96, 3) := by decide +kernel
theorem dXB_printRow_36 : decode cXB_printRow 36 = .ok (.aload_n 0, 1) := by decide +kernel
theorem dXB_printRow_37 : decode cXB_printRow 37 = .ok (.iload_n 1, 1) := by decide +kernel
theorem dXB_printRow_38 : decode cXB_printRow 38 = .ok (.aload_n 2, 1) := by decide +kernel
theorem dXB_printRow_39 : decode cXB_printRow 39 = .ok (.invokevirtual 99, 3) := by decide +kernel
theorem dXB_printRow_42 : decode cXB_printRow 42 = .ok (.aload_n 0, 1) := by decide +kernel
theorem dXB_printRow_43 : decode cXB_printRow 43 = .ok (.iload_n 1, 1) := by decide +kernel
theorem dXB_printRow_44 : decode cXB_printRow 44 = .ok (.aload_n 2, 1) := by decide +kernel
theorem dXB_printRow_45 : decode cXB_printRow 45 = .ok (.invokevirtual 103, 3) := by decide +kernel
theorem dXB_printRow_48 : decode cXB_printRow 48 = .ok (.aload_n 0, 1) := by decide +kernel
theorem dXB_printRow_49 : decode cXB_printRow 49 = .ok (.iload_n 1, 1) := by decide +kernel
theorem dXB_printRow_50 : decode cXB_printRow 50 = .ok (.aload_n 2, 1) := by decide +kernel
theorem dXB_printRow_51 : decode cXB_printRow 51 = .ok (.invokevirtual 106, 3) := by decide +kernel
theorem dXB_printRow_54 : decode cXB_printRow 54 = .ok (.aload_n 2, 1) := by decide +kernel
theorem dXB_printRow_55 : decode cXB_printRow 55 = .ok (.bipush 59, 2) := by decide +kernel
theorem dXB_printRow_57 : decode cXB_printRow 57 = .ok (.invokevirtual 90, 3) := by decide +kernel
theorem dXB_printRow_60 : decode cXB_printRow 60 = .ok (.return_, 1) := by decide +kernel
theorem dXP_put_0 : decode cXP_put 0 = .ok (.aload_n 0, 1) := by decide +kernel
theorem dXP_put_1 : decode cXP_put 1 = .ok (.getfield 15, 3) := by decide +kernel
theorem dXP_put_4 : decode cXP_put 4 = .ok (.sipush 160, 3) := by decide +kernel
theorem dXP_put_7 : decode cXP_put 7 = .ok (.if_icmp .ge 23, 3) := by decide +kernel
theorem dXP_put_10 : decode cXP_put 10 = .ok (.aload_n 0, 1) := by decide +kernel
theorem dXP_put_11 : decode cXP_put 11 = .ok (.getfield 9, 3) := by decide +kernel
theorem dXP_put_14 : decode cXP_put 14 = .ok (.aload_n 0, 1) := by decide +kernel
theorem dXP_put_15 : decode cXP_put 15 = .ok (.getfield 15, 3) := by decide +kernel
theorem dXP_put_18 : decode cXP_put 18 = .ok (.iload_n 1, 1) := by decide +kernel
theorem dXP_put_19 : decode cXP_put 19 = .ok (.iastore, 1) := by decide +kernel
theorem dXP_put_20 : decode cXP_put 20 = .ok (.aload_n 0, 1) := by decide +kernel
theorem dXP_put_21 : decode cXP_put 21 = .ok (.dup, 1) := by decide +kernel
theorem dXP_put_22 : decode cXP_put 22 = .ok (.getfield 15, 3) := by decide +kernel
theorem dXP_put_25 : decode cXP_put 25 = .ok (.iconst 1, 1) := by decide +kernel
theorem dXP_put_26 : decode cXP_put 26 = .ok (.iadd, 1) := by decide +kernel
theorem dXP_put_27 : decode cXP_put 27 = .ok (.putfield 15, 3) := by decide +kernel
theorem dXP_put_30 : decode cXP_put 30 = .ok (.return_, 1) := by decide +kernel
theorem dXP_putNumber_0 : decode cXP_putNumber 0 = .ok (.ldc 19, 2) := by decide +kernel
theorem dXP_putNumber_2 : decode cXP_putNumber 2 = .ok (.istore_n 2, 1) := by decide +kernel
theorem dXP_putNumber_3 : decode cXP_putNumber 3 = .ok (.iload_n 2, 1) := by decide +kernel
theorem dXP_putNumber_4 : decode cXP_putNumber 4 = .ok (.ifCond .le 34, 3) := by decide +kernel
theorem dXP_putNumber_7 : decode cXP_putNumber 7 = .ok (.iload_n 1, 1) := by decide +kernel
theorem dXP_putNumber_8 : decode cXP_putNumber 8 = .ok (.iload_n 2, 1) := by decide +kernel
theorem dXP_putNumber_9 : decode cXP_putNumber 9 = .ok (.if_icmp .ge 8, 3) := by decide +kernel
theorem dXP_putNumber_12 : decode cXP_putNumber 12 = .ok (.iload_n 2, 1) := by decide +kernel
theorem dXP_putNumber_13 : decode cXP_putNumber 13 = .ok (.iconst 1, 1) := by decide +kernel
theorem dXP_putNumber_14 : decode cXP_putNumber 14 = .ok (.if_icmp .ne 16, 3) := by decide +kernel
theorem dXP_putNumber_17 : decode cXP_putNumber 17 = .ok (.aload_n 0, 1) := by decide +kernel
theorem dXP_putNumber_18 : decode cXP_putNumber 18 = .ok (.bipush 48, 2) := by decide +kernel
theorem dXP_putNumber_20 : decode cXP_putNumber 20 = .ok (.iload_n 1, 1) := by decide +kernel
theorem dXP_putNumber_21 : decode cXP_putNumber 21 = .ok (.iload_n 2, 1) := by decide +kernel
theorem dXP_putNumber_22 : decode cXP_putNumber 22 = .ok (.idiv, 1) := by decide +kernel
theorem dXP_putNumber_23 : decode cXP_putNumber 23 = .ok (.bipush 10, 2) := by decide +kernel
theorem dXP_putNumber_25 : decode cXP_putNumber 25 = .ok (.irem, 1) := by decide +kernel
theorem dXP_putNumber_26 : decode cXP_putNumber 26 = .ok (.iadd, 1) := by decide +kernel
theorem dXP_putNumber_27 : decode cXP_putNumber 27 = .ok (.invokevirtual 20, 3) := by decide +kernel
theorem dXP_putNumber_30 : decode cXP_putNumber 30 = .ok (.iload_n 2, 1) := by decide +kernel
theorem dXP_putNumber_31 : decode cXP_putNumber 31 = .ok (.bipush 10, 2) := by decide +kernel
theorem dXP_putNumber_33 : decode cXP_putNumber 33 = .ok (.idiv, 1) := by decide +kernel
theorem dXP_putNumber_34 : decode cXP_putNumber 34 = .ok (.istore_n 2, 1) := by decide +kernel
theorem dXP_putNumber_35 : decode cXP_putNumber 35 = .ok (.goto (-32), 3) := by decide +kernel
theorem dXP_putNumber_38 : decode cXP_putNumber 38 = .ok (.return_, 1) := by decide +kernel
theorem dXB_printSpans_0 : decode cXB_printSpans 0 = .ok (.iconst 0, 1) := by decide +kernel
theorem dXB_printSpans_1 : decode cXB_printSpans 1 = .ok (.istore_n 3, 1) := by decide +kernel
theorem dXB_printSpans_2 : decode cXB_printSpans 2 = .ok (.iload_n 3, 1) := by decide +kernel
theorem dXB_printSpans_3 : decode cXB_printSpans 3 = .ok (.bipush 8, 2) := by decide +kernel
theorem dXB_printSpans_5 : decode cXB_printSpans 5 = .ok (.if_icmp .ge 62, 3) := by decide +kernel
theorem dXB_printSpans_8 : decode cXB_printSpans 8 = .ok (.aload_n 0, 1) := by decide +kernel
theorem dXB_printSpans_9 : decode cXB_printSpans 9 = .ok (.iload_n 1, 1) := by decide +kernel
theorem dXB_printSpans_10 : decode cXB_printSpans 10 = .ok (.iload_n 3, 1) := by decide +kernel
theorem dXB_printSpans_11 : decode cXB_printSpans 11 = .ok (.invokevirtual 63, 3) := by decide +kernel
theorem dXB_printSpans_14 : decode cXB_printSpans 14 = .ok (.ifCond .eq 47, 3) := by decide +kernel
theorem dXB_printSpans_17 : decode cXB_printSpans 17 = .ok (.aload_n 2, 1) := by decide +kernel
theorem dXB_printSpans_18 : decode cXB_printSpans 18 = .ok (.bipush 65, 2) := by decide +kernel
theorem dXB_printSpans_20 : decode cXB_printSpans 20 = .ok (.iload_n 3, 1) := by decide +kernel
theorem dXB_printSpans_21 : decode cXB_printSpans 21 = .ok (.iadd, 1) := by decide +kernel
theorem dXB_printSpans_22 : decode cXB_printSpans 22 = .ok (.invokevirtual 90, 3) := by decide +kernel
theorem dXB_printSpans_25 : decode cXB_printSpans 25 = .ok (.aload_n 2, 1) := by decide +kernel
theorem dXB_printSpans_26 : decode cXB_printSpans 26 = .ok (.aload_n 0, 1) := by decide +kernel
theorem dXB_printSpans_27 : decode cXB_printSpans 27 = .ok (.getfield 18, 3) := by decide +kernel
theorem dXB_printSpans_30 : decode cXB_printSpans 30 = .ok (.iload_n 1, 1) := by decide +kernel
theorem dXB_printSpans_31 : decode cXB_printSpans 31 = .ok (.bipush 8, 2) := by decide +kernel
theorem dXB_printSpans_33 : decode cXB_printSpans 33 = .ok (.imul, 1) := by decide +kernel
theorem dXB_printSpans_34 : decode cXB_printSpans 34 = .ok (.iload_n 3, 1) := by decide +kernel
theorem dXB_printSpans_35 : decode cXB_printSpans 35 = .ok (.iadd, 1) := by decide +kernel
theorem dXB_printSpans_36 : decode cXB_printSpans 36 = .ok (.iaload, 1) := by decide +kernel
theorem dXB_printSpans_37 : decode cXB_printSpans 37 = .ok (.invokevirtual 96, 3) := by decide +kernel
theorem dXB_printSpans_40 : decode cXB_printSpans 40 = .ok (.aload_n 2, 1) := by decide +kernel
theorem dXB_printSpans_41 : decode cXB_printSpans 41 = .ok (.bipush 45, 2) := by decide +kernel
theorem dXB_printSpans_43 : decode cXB_printSpans 43 = .ok (.invokevirtual 90, 3) := by decide +kernel
theorem dXB_printSpans_46 : decode cXB_printSpans 46 = .ok (.aload_n 2, 1) := by decide +kernel
theorem dXB_printSpans_47 : decode cXB_printSpans 47 = .ok (.aload_n 0, 1) := by decide +kernel
theorem dXB_printSpans_48 : decode cXB_printSpans 48 = .ok (.getfield 21, 3) := by decide +kernel
theorem dXB_printSpans_51 : decode cXB_printSpans 51 = .ok (.iload_n 1, 1) := by decide +kernel
theorem dXB_printSpans_52 : decode cXB_printSpans 52 = .ok (.bipush 8, 2) := by decide +kernel
theorem dXB_printSpans_54 : decode cXB_printSpans 54 = .ok (.imul, 1) := by decide +kernel
theorem dXB_printSpans_55 : decode cXB_printSpans 55 = .ok (.iload_n 3, 1) := by decide +kernel
theorem dXB_printSpans_56 : decode cXB_printSpans 56 = .ok (.iadd, 1) := by decide +kernel
theorem dXB_printSpans_57 : decode cXB_printSpans 57 = .ok (.iaload, 1) := by decide +kernel
theorem dXB_printSpans_58 : decode cXB_printSpans 58 = .ok (.invokevirtual 96, 3) := by decide +kernel
theorem dXB_printSpans_61 : decode cXB_printSpans 61 = .ok (.iinc 3 1, 3) := by decide +kernel
theorem dXB_printSpans_64 : decode cXB_printSpans 64 = .ok (.goto (-62), 3) := by decide +kernel
theorem dXB_printSpans_67 : decode cXB_printSpans 67 = .ok (.return_, 1) := by decide +kernel
theorem dXB_printRoutes_0 : decode cXB_printRoutes 0 = .ok (.aload_n 0, 1) := by decide +kernel
theorem dXB_printRoutes_1 : decode cXB_printRoutes 1 = .ok (.getfield 27, 3) := by decide +kernel
theorem dXB_printRoutes_4 : decode cXB_printRoutes 4 = .ok (.iload_n 1, 1) := by decide +kernel
theorem dXB_printRoutes_5 : decode cXB_printRoutes 5 = .ok (.iaload, 1) := by decide +kernel
theorem dXB_printRoutes_6 : decode cXB_printRoutes 6 = .ok (.ifCond .ne 4, 3) := by decide +kernel
theorem dXB_printRoutes_9 : decode cXB_printRoutes 9 = .ok (.return_, 1) := by decide +kernel
theorem dXB_printRoutes_10 : decode cXB_printRoutes 10 = .ok (.aload_n 2, 1) := by decide +kernel
theorem dXB_printRoutes_11 : decode cXB_printRoutes 11 = .ok (.bipush 114, 2) := by decide +kernel
theorem dXB_printRoutes_13 : decode cXB_printRoutes 13 = .ok (.invokevirtual 90, 3) := by decide +kernel
theorem dXB_printRoutes_16 : decode cXB_printRoutes 16 = .ok (.iconst 0, 1) := by decide +kernel
theorem dXB_printRoutes_17 : decode cXB_printRoutes 17 = .ok (.istore_n 3, 1) := by decide +kernel
theorem dXB_printRoutes_18 : decode cXB_printRoutes 18 = .ok (.iload_n 3, 1) := by decide +kernel
theorem dXB_printRoutes_19 : decode cXB_printRoutes 19 = .ok (.bipush 8, 2) := by decide +kernel
theorem dXB_printRoutes_21 : decode cXB_printRoutes 21 = .ok (.if_icmp .ge 30, 3) := by decide +kernel
theorem dXB_printRoutes_24 : decode cXB_printRoutes 24 = .ok (.aload_n 0, 1) := by decide +kernel
theorem dXB_printRoutes_25 : decode cXB_printRoutes 25 = .ok (.getfield 27, 3) := by decide +kernel
theorem dXB_printRoutes_28 : decode cXB_printRoutes 28 = .ok (.iload_n 1, 1) := by decide +kernel
theorem dXB_printRoutes_29 : decode cXB_printRoutes 29 = .ok (.iaload, 1) := by decide +kernel
theorem dXB_printRoutes_30 : decode cXB_printRoutes 30 = .ok (.iload_n 3, 1) := by decide +kernel
theorem dXB_printRoutes_31 : decode cXB_printRoutes 31 = .ok (.invokestatic 52, 3) := by decide +kernel
theorem dXB_printRoutes_34 : decode cXB_printRoutes 34 = .ok (.ifCond .eq 11, 3) := by decide +kernel
theorem dXB_printRoutes_37 : decode cXB_printRoutes 37 = .ok (.aload_n 2, 1) := by decide +kernel
theorem dXB_printRoutes_38 : decode cXB_printRoutes 38 = .ok (.bipush 48, 2) := by decide +kernel
theorem dXB_printRoutes_40 : decode cXB_printRoutes 40 = .ok (.iload_n 3, 1) := by decide +kernel
theorem dXB_printRoutes_41 : decode cXB_printRoutes 41 = .ok (.iadd, 1) := by decide +kernel
theorem dXB_printRoutes_42 : decode cXB_printRoutes 42 = .ok (.invokevirtual 90, 3) := by decide +kernel
theorem dXB_printRoutes_45 : decode cXB_printRoutes 45 = .ok (.iinc 3 1, 3) := by decide +kernel
theorem dXB_printRoutes_48 : decode cXB_printRoutes 48 = .ok (.goto (-30), 3) := by decide +kernel
theorem dXB_printRoutes_51 : decode cXB_printRoutes 51 = .ok (.return_, 1) := by decide +kernel
theorem dXB_printLimits_0 : decode cXB_printLimits 0 = .ok (.iconst 0, 1) := by decide +kernel
theorem dXB_printLimits_1 : decode cXB_printLimits 1 = .ok (.istore_n 3, 1) := by decide +kernel
theorem dXB_printLimits_2 : decode cXB_printLimits 2 = .ok (.iload_n 3, 1) := by decide +kernel
theorem dXB_printLimits_3 : decode cXB_printLimits 3 = .ok (.iconst 4, 1) := by decide +kernel
theorem dXB_printLimits_4 : decode cXB_printLimits 4 = .ok (.if_icmp .ge 52, 3) := by decide +kernel
theorem dXB_printLimits_7 : decode cXB_printLimits 7 = .ok (.aload_n 0, 1) := by decide +kernel
theorem dXB_printLimits_8 : decode cXB_printLimits 8 = .ok (.iload_n 1, 1) := by decide +kernel
theorem dXB_printLimits_9 : decode cXB_printLimits 9 = .ok (.iload_n 3, 1) := by decide +kernel
theorem dXB_printLimits_10 : decode cXB_printLimits 10 = .ok (.invokevirtual 67, 3) := by decide +kernel
theorem dXB_printLimits_13 : decode cXB_printLimits 13 = .ok (.ifCond .eq 37, 3) := by decide +kernel
theorem dXB_printLimits_16 : decode cXB_printLimits 16 = .ok (.aload_n 2, 1) := by decide +kernel
theorem dXB_printLimits_17 : decode cXB_printLimits 17 = .ok (.bipush 113, 2) := by decide +kernel
theorem dXB_printLimits_19 : decode cXB_printLimits 19 = .ok (.invokevirtual 90, 3) := by decide +kernel
theorem dXB_printLimits_22 : decode cXB_printLimits 22 = .ok (.aload_n 2, 1) := by decide +kernel
theorem dXB_printLimits_23 : decode cXB_printLimits 23 = .ok (.bipush 48, 2) := by decide +kernel
theorem dXB_printLimits_25 : decode cXB_printLimits 25 = .ok (.iload_n 3, 1) := by decide +kernel
theorem dXB_printLimits_26 : decode cXB_printLimits 26 = .ok (.iadd, 1) := by decide +kernel
theorem dXB_printLimits_27 : decode cXB_printLimits 27 = .ok (.invokevirtual 90, 3) := by decide +kernel
theorem dXB_printLimits_30 : decode cXB_printLimits 30 = .ok (.aload_n 2, 1) := by decide +kernel
theorem dXB_printLimits_31 : decode cXB_printLimits 31 = .ok (.bipush 60, 2) := by decide +kernel
theorem dXB_printLimits_33 : decode cXB_printLimits 33 = .ok (.invokevirtual 90, 3) := by decide +kernel
theorem dXB_printLimits_36 : decode cXB_printLimits 36 = .ok (.aload_n 2, 1) := by decide +kernel
theorem dXB_printLimits_37 : decode cXB_printLimits 37 = .ok (.aload_n 0, 1) := by decide +kernel
theorem dXB_printLimits_38 : decode cXB_printLimits 38 = .ok (.getfield 24, 3) := by decide +kernel
theorem dXB_printLimits_41 : decode cXB_printLimits 41 = .ok (.iload_n 1, 1) := by decide +kernel
theorem dXB_printLimits_42 : decode cXB_printLimits 42 = .ok (.iconst 4, 1) := by decide +kernel
theorem dXB_printLimits_43 : decode cXB_printLimits 43 = .ok (.imul, 1) := by decide +kernel
theorem dXB_printLimits_44 : decode cXB_printLimits 44 = .ok (.iload_n 3, 1) := by decide +kernel
theorem dXB_printLimits_45 : decode cXB_printLimits 45 = .ok (.iadd, 1) := by decide +kernel
theorem dXB_printLimits_46 : decode cXB_printLimits 46 = .ok (.iaload, 1) := by decide +kernel
theorem dXB_printLimits_47 : decode cXB_printLimits 47 = .ok (.invokevirtual 96, 3) := by decide +kernel
theorem dXB_printLimits_50 : decode cXB_printLimits 50 = .ok (.iinc 3 1, 3) := by decide +kernel
theorem dXB_printLimits_53 : decode cXB_printLimits 53 = .ok (.goto (-51), 3) := by decide +kernel
theorem dXB_printLimits_56 : decode cXB_printLimits 56 = .ok (.return_, 1) := by decide +kernel
theorem dXP_length_0 : decode cXP_length 0 = .ok (.aload_n 0, 1) := by decide +kernel
theorem dXP_length_1 : decode cXP_length 1 = .ok (.getfield 15, 3) := by decide +kernel
theorem dXP_length_4 : decode cXP_length 4 = .ok (.ireturn, 1) := by decide +kernel
theorem dXG_at_0 : decode cXG_at 0 = .ok (.iload_n 1, 1) := by decide +kernel
theorem dXG_at_1 : decode cXG_at 1 = .ok (.invokestatic 127, 3) := by decide +kernel
theorem dXG_at_4 : decode cXG_at 4 = .ok (.aload_n 0, 1) := by decide +kernel
theorem dXG_at_5 : decode cXG_at 5 = .ok (.getfield 28, 3) := by decide +kernel
theorem dXG_at_8 : decode cXG_at 8 = .ok (.iload_n 1, 1) := by decide +kernel
theorem dXG_at_9 : decode cXG_at 9 = .ok (.invokevirtual 151, 3) := by decide +kernel
theorem dXG_at_12 : decode cXG_at 12 = .ok (.ireturn, 1) := by decide +kernel
theorem dXP_byteAt_0 : decode cXP_byteAt 0 = .ok (.iload_n 1, 1) := by decide +kernel
theorem dXP_byteAt_1 : decode cXP_byteAt 1 = .ok (.ifCond .lt 20, 3) := by decide +kernel
theorem dXP_byteAt_4 : decode cXP_byteAt 4 = .ok (.iload_n 1, 1) := by decide +kernel
theorem dXP_byteAt_5 : decode cXP_byteAt 5 = .ok (.aload_n 0, 1) := by decide +kernel
theorem dXP_byteAt_6 : decode cXP_byteAt 6 = .ok (.getfield 15, 3) := by decide +kernel
theorem dXP_byteAt_9 : decode cXP_byteAt 9 = .ok (.if_icmp .ge 12, 3) := by decide +kernel
theorem dXP_byteAt_12 : decode cXP_byteAt 12 = .ok (.aload_n 0, 1) := by decide +kernel
theorem dXP_byteAt_13 : decode cXP_byteAt 13 = .ok (.getfield 9, 3) := by decide +kernel
theorem dXP_byteAt_16 : decode cXP_byteAt 16 = .ok (.iload_n 1, 1) := by decide +kernel
theorem dXP_byteAt_17 : decode cXP_byteAt 17 = .ok (.iaload, 1) := by decide +kernel
theorem dXP_byteAt_18 : decode cXP_byteAt 18 = .ok (.goto 4, 3) := by decide +kernel
theorem dXP_byteAt_21 : decode cXP_byteAt 21 = .ok (.iconst (-1), 1) := by decide +kernel
theorem dXP_byteAt_22 : decode cXP_byteAt 22 = .ok (.ireturn, 1) := by decide +kernel
end
section
/-- a world that a method may read: its cells, the classes, the nest's words -/
def jB (D : va_G) (tys : List (ClassId × FieldType)) (wc : va_W) : State → Prop := fun U => va_P D vwCl wc U.heap ∧ va_K D vwCl tys U ∧ jN U
/-- .. that it may write, with a heap of sz cells -/
def jBw (D : va_G) (tys : List (ClassId × FieldType)) (wc : va_W) (sz : Nat) : State → Prop := fun U => U.heap.size = sz ∧ va_P D vwCl wc U.heap ∧ va_K D vwCl tys U ∧ va_D (fun _ => True) wc ∧ jN U
/-- the world behind a method that writes -/
def jE (D : va_G) (tys : List (ClassId × FieldType)) (wc : va_W) (sz : Nat) (w1 : va_W) (t : State) : Prop := va_P D vwCl w1 t.heap ∧ va_K D vwCl tys t ∧ va_D (va_A wc sz) w1
theorem jB_blind {D : va_G} {tys : List (ClassId × FieldType)} {wc : va_W} {As : List Value} : FrameBlind (va_Pc As (jB D tys wc)) := fun a U g mk q => ⟨q.1, q.2.1, va_K.moved (u := U) (U := U.calling g mk a) (Vm.Alike.refl U.vm) q.2.2.1, jN.same rfl q.2.2.2⟩
theorem jBw_blind {D : va_G} {tys : List (ClassId × FieldType)} {wc : va_W} {sz : Nat} {As : List Value} : FrameBlind (va_Pc As (jBw D tys wc sz)) := fun a U g mk q => ⟨q.1, q.2.1, q.2.2.1, va_K.moved (u := U) (U := U.calling g mk a) (Vm.Alike.refl U.vm) q.2.2.2.1, q.2.2.2.2.1, jN.same rfl q.2.2.2.2.2⟩
/-- words among TBL are words among a method's -/
theorem jmem {c0 w : Cond} (h : w ∈ TBL) : w ∈ c0 :: TBL := List.mem_cons_of_mem _ h
theorem jgood {w : Cond} (h : w ∈ TBL) : (w.onTables && w.keeps) = true ∨ ∃ ty, w = .arrayClass ty := good_of_word (TBL_good w h)
theorem jG {c0 : Cond} {ws : List Cond} (h : ∀ w ∈ ws, w ∈ TBL) : GoodIn (c0 :: TBL) ws := fun w hw => ⟨jmem (h w hw), jgood (h w hw)⟩
theorem jG_c {y : MethodName} {b : ByteArray} {n : Nat} {r : Option FieldType} (h : Cond.code y b n r ∈ TBL) : ∀ w ∈ Cond.code y b n r :: TBL, w ∈ TBL := fun w hw => (List.mem_cons.mp hw).elim (fun e => by rw [e]; exact h) id
theorem jG_V {c0 : Cond} {own C : String} {i n : Nat} {y : MethodName} {b : ByteArray} {r : Option FieldType} (h1 : Cond.methodLink own i y ∈ TBL) (h2 : Cond.instanceMethod y ∈ TBL) (h3 : Cond.selects C y y ∈ TBL) (h4 : Cond.initialized C ∈ TBL) (h5 : Cond.code y b n r ∈ TBL) : GoodIn (c0 :: TBL) (wsV own i C y (Cond.code y b n r :: TBL)) := jG (fun w hw => by
  rcases List.mem_append.mp hw with h | h
  · simp only [List.mem_cons, List.not_mem_nil, or_false] at h
    rcases h with rfl | rfl | rfl | rfl <;> assumption
  · exact jG_c h5 w h)
theorem jG_S {c0 : Cond} {own : String} {i n : Nat} {y : MethodName} {b : ByteArray} {r : Option FieldType} (h1 : Cond.methodLink own i y ∈ TBL) (h2 : Cond.static y ∈ TBL) (h4 : Cond.initialized own ∈ TBL) (h5 : Cond.code y b n r ∈ TBL) : GoodIn (c0 :: TBL) (wsS own i y (Cond.code y b n r :: TBL)) := jG (fun w hw => by
  rcases List.mem_append.mp hw with h | h
  · simp only [List.mem_cons, List.not_mem_nil, or_false] at h
    rcases h with rfl | rfl | rfl <;> assumption
  · exact jG_c h5 w h)
theorem jG_T {c0 : Cond} {own : String} {i n : Nat} {y : MethodName} {b : ByteArray} {r : Option FieldType} (h1 : Cond.methodLink own i y ∈ TBL) (h2 : Cond.static y ∈ TBL) (h4 : Cond.initialized y.cls ∈ TBL) (h5 : Cond.code y b n r ∈ TBL) : GoodIn (c0 :: TBL) (va_wsS own i y (Cond.code y b n r :: TBL)) := jG (fun w hw => by
  rcases List.mem_append.mp hw with h | h
  · simp only [List.mem_cons, List.not_mem_nil, or_false] at h
    rcases h with rfl | rfl | rfl <;> assumption
  · exact jG_c h5 w h)

section JC
variable {p : Program} {l : Launch} {e : Env} {R : Room} {s : State} {m : MethodId} {args : Array Value} {below : List Frame} {meth : Method} {c : Code} {H : Heap} {locs : List Loc} {cells slots : Nat} {Q : State → Prop}
variable {cc bytes : ByteArray} {pc nL maxL n index : Nat} {ls : Array Slot} {rest st0 As : List Value} {D : va_G} {A : Nat → Prop} {b : Nat} {tys : List (ClassId × FieldType)} {ws wc wr : va_W} {H0 : Heap} {own C host : String} {y : MethodName} {ret : Option FieldType} {rm : Room} {Ts : List Cond} {z : Int} {a : Array Value}
theorem jRun {mc ms : Nat} {g : JFrame} {Qa : State → Outcome → State → Prop} {free : Addr → Prop} (h : va_Run p l e R s m args below meth c H locs cells slots mc ms g rest Qa free) : CallRun p l e R s m args below meth c H locs cells slots mc ms g rest Qa free := fun T hT X => by
  obtain ⟨v, st₀, t, T', L, h0, X', hL, e1, e2, hq, st⟩ := h T hT X
  exact ⟨v, st₀, t, T', L, h0, X', hL, e1, hq, st⟩
theorem jrVi (S : CallFix p m c cc nL s args Ts own) (hM : Met l y (Cond.code y bytes maxL ret :: TBL) rm (va_Pc (.ref b :: As) (jB D tys wc)) (vp_Si (fun r => r = jI z)) 0 0 (fun _ => False)) (cw : CallW R s args own C index y bytes maxL ret (Cond.code y bytes maxL ret :: TBL) rm 0 0 n) (hK : va_K D vwCl tys s) (hP : va_P D vwCl ws H) (hN : jN s) (is : List Nat) (hs : is.filterMap (fun i => ws[i]?) = wc) (q0 ci : Nat) {q : vw_C} {fs : List Value} (hc : vwCl[ci]? = some q) (hC : q.1 = C) (he : ws[q0]? = some (b, .inr (ci, fs))) (hn : As.length = n) (hsize : ls.size = nL) (hstack : st0 = As.reverse ++ .ref b :: rest) (hW : (rest.map fun v => v.category).sum ≤ 8) (hdg : decode cc pc = .ok (.invokevirtual index, 3)) (hf : cells ≤ R.cells ∧ slots ≤ R.slots) (kk : W p l e R s m args below meth c H locs cells slots Q (F0 m (pc + 3) ls (.int (jI z) :: rest))) : W p l e R s m args below meth c H locs cells slots Q (F0 m pc ls st0) := by
  subst hC
  exact vp_callSi (jRun (va_runV S hM cw ⟨jB_blind, va_recv hK hP hc he, fun U hU hWm => ⟨rfl, by rw [hU]; exact hP.sub is hs, va_K.moved hWm.alike hK, jN.warm hWm hN⟩⟩ rfl hn hsize hstack (lv_room hW) hdg hf)) (fun r er => by rw [er]; exact kk)
theorem jrSi (S : CallFix p m c cc nL s args Ts own) (hM : Met l y (Cond.code y bytes maxL ret :: TBL) rm (va_Pc (As) (jB D tys wc)) (vp_Si (fun r => r = jI z)) 0 0 (fun _ => False)) (cw : CallB R s args own index y bytes maxL ret (Cond.code y bytes maxL ret :: TBL) rm 0 0 n ∧ (Cond.static y).before args s = true) (hK : va_K D vwCl tys s) (hP : va_P D vwCl ws H) (hN : jN s) (is : List Nat) (hs : is.filterMap (fun i => ws[i]?) = wc) (hn : As.length = n) (hsize : ls.size = nL) (hstack : st0 = As.reverse ++ rest) (hW : (rest.map fun v => v.category).sum ≤ 8) (hdg : decode cc pc = .ok (.invokestatic index, 3)) (hf : cells ≤ R.cells ∧ slots ≤ R.slots) (kk : W p l e R s m args below meth c H locs cells slots Q (F0 m (pc + 3) ls (.int (jI z) :: rest))) : W p l e R s m args below meth c H locs cells slots Q (F0 m pc ls st0) := vp_callSi (jRun (va_runS S hM cw ⟨jB_blind, fun U hU hWm => ⟨rfl, by rw [hU]; exact hP.sub is hs, va_K.moved hWm.alike hK, jN.warm hWm hN⟩⟩ rfl hn hsize hstack (lv_room hW) hdg hf)) (fun r er => by rw [er]; exact kk)
theorem jrNi (S : CallFix p m c cc nL s args Ts own) (hM : Met l y (Cond.code y bytes maxL ret :: TBL) rm (va_Pc (As) (jB D tys wc)) (vp_Si (fun r => r = jI z)) 0 0 (fun _ => False)) (cw : va_CN R s args own index y host bytes maxL ret (Cond.code y bytes maxL ret :: TBL) rm 0 0 n ∧ (Cond.static y).before args s = true ∧ True) (hK : va_K D vwCl tys s) (hP : va_P D vwCl ws H) (hN : jN s) (is : List Nat) (hs : is.filterMap (fun i => ws[i]?) = wc) (hn : As.length = n) (hsize : ls.size = nL) (hstack : st0 = As.reverse ++ rest) (hW : (rest.map fun v => v.category).sum ≤ 8) (hdg : decode cc pc = .ok (.invokestatic index, 3)) (hf : cells ≤ R.cells ∧ slots ≤ R.slots) (kk : W p l e R s m args below meth c H locs cells slots Q (F0 m (pc + 3) ls (.int (jI z) :: rest))) : W p l e R s m args below meth c H locs cells slots Q (F0 m pc ls st0) := vp_callSi (jRun (va_runSN S hM cw ⟨jB_blind, fun U hU hWm => ⟨rfl, by rw [hU]; exact hP.sub is hs, va_K.moved hWm.alike hK, jN.warm hWm hN⟩⟩ rfl hn hsize hstack (lv_room hW) hdg hf)) (fun r er => by rw [er]; exact kk)
theorem jrVl (S : CallFix p m c cc nL s args Ts own) (hM : Met l y (Cond.code y bytes maxL ret :: TBL) rm (va_Pc (.ref b :: As) (jB D tys wc)) (vp_Sl (fun r => r = jL z)) 0 0 (fun _ => False)) (cw : CallW R s args own C index y bytes maxL ret (Cond.code y bytes maxL ret :: TBL) rm 0 0 n) (hK : va_K D vwCl tys s) (hP : va_P D vwCl ws H) (hN : jN s) (is : List Nat) (hs : is.filterMap (fun i => ws[i]?) = wc) (q0 ci : Nat) {q : vw_C} {fs : List Value} (hc : vwCl[ci]? = some q) (hC : q.1 = C) (he : ws[q0]? = some (b, .inr (ci, fs))) (hn : As.length = n) (hsize : ls.size = nL) (hstack : st0 = As.reverse ++ .ref b :: rest) (hW : (rest.map fun v => v.category).sum ≤ 8) (hdg : decode cc pc = .ok (.invokevirtual index, 3)) (hf : cells ≤ R.cells ∧ slots ≤ R.slots) (kk : W p l e R s m args below meth c H locs cells slots Q (F0 m (pc + 3) ls (.long (jL z) :: rest))) : W p l e R s m args below meth c H locs cells slots Q (F0 m pc ls st0) := by
  subst hC
  exact vp_callSl (jRun (va_runV S hM cw ⟨jB_blind, va_recv hK hP hc he, fun U hU hWm => ⟨rfl, by rw [hU]; exact hP.sub is hs, va_K.moved hWm.alike hK, jN.warm hWm hN⟩⟩ rfl hn hsize hstack (lv_room hW) hdg hf)) (fun r er => by rw [er]; exact kk)
theorem jrSl (S : CallFix p m c cc nL s args Ts own) (hM : Met l y (Cond.code y bytes maxL ret :: TBL) rm (va_Pc (As) (jB D tys wc)) (vp_Sl (fun r => r = jL z)) 0 0 (fun _ => False)) (cw : CallB R s args own index y bytes maxL ret (Cond.code y bytes maxL ret :: TBL) rm 0 0 n ∧ (Cond.static y).before args s = true) (hK : va_K D vwCl tys s) (hP : va_P D vwCl ws H) (hN : jN s) (is : List Nat) (hs : is.filterMap (fun i => ws[i]?) = wc) (hn : As.length = n) (hsize : ls.size = nL) (hstack : st0 = As.reverse ++ rest) (hW : (rest.map fun v => v.category).sum ≤ 8) (hdg : decode cc pc = .ok (.invokestatic index, 3)) (hf : cells ≤ R.cells ∧ slots ≤ R.slots) (kk : W p l e R s m args below meth c H locs cells slots Q (F0 m (pc + 3) ls (.long (jL z) :: rest))) : W p l e R s m args below meth c H locs cells slots Q (F0 m pc ls st0) := vp_callSl (jRun (va_runS S hM cw ⟨jB_blind, fun U hU hWm => ⟨rfl, by rw [hU]; exact hP.sub is hs, va_K.moved hWm.alike hK, jN.warm hWm hN⟩⟩ rfl hn hsize hstack (lv_room hW) hdg hf)) (fun r er => by rw [er]; exact kk)
theorem jrNl (S : CallFix p m c cc nL s args Ts own) (hM : Met l y (Cond.code y bytes maxL ret :: TBL) rm (va_Pc (As) (jB D tys wc)) (vp_Sl (fun r => r = jL z)) 0 0 (fun _ => False)) (cw : va_CN R s args own index y host bytes maxL ret (Cond.code y bytes maxL ret :: TBL) rm 0 0 n ∧ (Cond.static y).before args s = true ∧ True) (hK : va_K D vwCl tys s) (hP : va_P D vwCl ws H) (hN : jN s) (is : List Nat) (hs : is.filterMap (fun i => ws[i]?) = wc) (hn : As.length = n) (hsize : ls.size = nL) (hstack : st0 = As.reverse ++ rest) (hW : (rest.map fun v => v.category).sum ≤ 8) (hdg : decode cc pc = .ok (.invokestatic index, 3)) (hf : cells ≤ R.cells ∧ slots ≤ R.slots) (kk : W p l e R s m args below meth c H locs cells slots Q (F0 m (pc + 3) ls (.long (jL z) :: rest))) : W p l e R s m args below meth c H locs cells slots Q (F0 m pc ls st0) := vp_callSl (jRun (va_runSN S hM cw ⟨jB_blind, fun U hU hWm => ⟨rfl, by rw [hU]; exact hP.sub is hs, va_K.moved hWm.alike hK, jN.warm hWm hN⟩⟩ rfl hn hsize hstack (lv_room hW) hdg hf)) (fun r er => by rw [er]; exact kk)
theorem jwVi {U9 : Type} {post : Int32 → U9 → Prop} {w1 : U9 → va_W} (S : CallFix p m c cc nL s args Ts own) (hM : Met l y (Cond.code y bytes maxL ret :: TBL) rm (va_Pc (.ref b :: As) (jBw D tys wc H.size)) (va_Qi post (fun u t => jE D tys wc H.size (w1 u) t) (va_A wc H.size)) 0 0 (va_A wc H.size)) (cw : CallW R s args own C index y bytes maxL ret (Cond.code y bytes maxL ret :: TBL) rm 0 0 n) (hK : va_K D vwCl tys s) (hP : va_P D vwCl ws H) (hD : va_D A ws) (hS : va_S A H0 H locs) (hA : ∀ q, H0.size ≤ q → A q) (hN : jN s) (isC isR : List Nat) (hC : isC.map (fun i => ws[i]?) = wc.map some) (hRr : isR.map (fun i => ws[i]?) = wr.map some) (hnd : va_nd isR = true) (hnc : va_nd isC = true) (hdis : ∀ i ∈ isR, i ∉ isC) (q0 ci : Nat) {q : vw_C} {fs : List Value} (hc : vwCl[ci]? = some q) (hCc : q.1 = C) (he : ws[q0]? = some (b, .inr (ci, fs))) (hn : As.length = n) (hsize : ls.size = nL) (hstack : st0 = As.reverse ++ .ref b :: rest) (hW : (rest.map fun v => v.category).sum ≤ 8) (hdg : decode cc pc = .ok (.invokevirtual index, 3)) (hf : cells ≤ R.cells ∧ slots ≤ R.slots) (kk : ∀ (r : Int32) (u : U9) (H1 : Heap) (locs1 : List Loc), post r u → va_P D vwCl (wr ++ w1 u) H1 → va_D A (wr ++ w1 u) → va_S A H0 H1 locs1 → W p l e R s m args below meth c H1 locs1 cells slots Q (F0 m (pc + 3) ls (.int r :: rest))) : W p l e R s m args below meth c H locs cells slots Q (F0 m pc ls st0) := by
  have hPc := hP.sub isC (by
    have h9 := congrArg (fun l => l.filterMap id) hC
    simpa [List.filterMap_map, Function.comp_def] using h9)
  have hDc : va_D A wc := hD.sub isC hnc hC
  have hFc := va_free (wc := wc) hD hS hA isC hC
  refine va_calli (va_runV S hM cw ⟨jBw_blind, (by subst hCc; exact va_recv hK hP hc he), fun U hU hWm => ⟨rfl, by rw [hU], by rw [hU]; exact hPc, va_K.moved hWm.alike hK, hDc.weaken (fun _ _ _ _ => trivial), jN.warm hWm hN⟩⟩ rfl hn hsize hstack (lv_room hW) hdg hf) hS (fun q _ h => hFc q h) hFc (fun r u t H1 locs1 ht hvm hw hB hz1 hk1 hS1 => ?_)
  obtain ⟨hP1, hK1, hD1⟩ := hB
  rw [ht] at hP1
  obtain ⟨hP2, hD2⟩ := va_join hP hD isC isR hC hRr hnd hdis hk1 hFc hP1 hD1
  exact kk r u H1 locs1 hw hP2 hD2 hS1
theorem jwSi {U9 : Type} {post : Int32 → U9 → Prop} {w1 : U9 → va_W} (S : CallFix p m c cc nL s args Ts own) (hM : Met l y (Cond.code y bytes maxL ret :: TBL) rm (va_Pc (As) (jBw D tys wc H.size)) (va_Qi post (fun u t => jE D tys wc H.size (w1 u) t) (va_A wc H.size)) 0 0 (va_A wc H.size)) (cw : CallB R s args own index y bytes maxL ret (Cond.code y bytes maxL ret :: TBL) rm 0 0 n ∧ (Cond.static y).before args s = true) (hK : va_K D vwCl tys s) (hP : va_P D vwCl ws H) (hD : va_D A ws) (hS : va_S A H0 H locs) (hA : ∀ q, H0.size ≤ q → A q) (hN : jN s) (isC isR : List Nat) (hC : isC.map (fun i => ws[i]?) = wc.map some) (hRr : isR.map (fun i => ws[i]?) = wr.map some) (hnd : va_nd isR = true) (hnc : va_nd isC = true) (hdis : ∀ i ∈ isR, i ∉ isC) (hn : As.length = n) (hsize : ls.size = nL) (hstack : st0 = As.reverse ++ rest) (hW : (rest.map fun v => v.category).sum ≤ 8) (hdg : decode cc pc = .ok (.invokestatic index, 3)) (hf : cells ≤ R.cells ∧ slots ≤ R.slots) (kk : ∀ (r : Int32) (u : U9) (H1 : Heap) (locs1 : List Loc), post r u → va_P D vwCl (wr ++ w1 u) H1 → va_D A (wr ++ w1 u) → va_S A H0 H1 locs1 → W p l e R s m args below meth c H1 locs1 cells slots Q (F0 m (pc + 3) ls (.int r :: rest))) : W p l e R s m args below meth c H locs cells slots Q (F0 m pc ls st0) := by
  have hPc := hP.sub isC (by
    have h9 := congrArg (fun l => l.filterMap id) hC
    simpa [List.filterMap_map, Function.comp_def] using h9)
  have hDc : va_D A wc := hD.sub isC hnc hC
  have hFc := va_free (wc := wc) hD hS hA isC hC
  refine va_calli (va_runS S hM cw ⟨jBw_blind, fun U hU hWm => ⟨rfl, by rw [hU], by rw [hU]; exact hPc, va_K.moved hWm.alike hK, hDc.weaken (fun _ _ _ _ => trivial), jN.warm hWm hN⟩⟩ rfl hn hsize hstack (lv_room hW) hdg hf) hS (fun q _ h => hFc q h) hFc (fun r u t H1 locs1 ht hvm hw hB hz1 hk1 hS1 => ?_)
  obtain ⟨hP1, hK1, hD1⟩ := hB
  rw [ht] at hP1
  obtain ⟨hP2, hD2⟩ := va_join hP hD isC isR hC hRr hnd hdis hk1 hFc hP1 hD1
  exact kk r u H1 locs1 hw hP2 hD2 hS1
theorem jwVl {U9 : Type} {post : Int64 → U9 → Prop} {w1 : U9 → va_W} (S : CallFix p m c cc nL s args Ts own) (hM : Met l y (Cond.code y bytes maxL ret :: TBL) rm (va_Pc (.ref b :: As) (jBw D tys wc H.size)) (va_Ql post (fun u t => jE D tys wc H.size (w1 u) t) (va_A wc H.size)) 0 0 (va_A wc H.size)) (cw : CallW R s args own C index y bytes maxL ret (Cond.code y bytes maxL ret :: TBL) rm 0 0 n) (hK : va_K D vwCl tys s) (hP : va_P D vwCl ws H) (hD : va_D A ws) (hS : va_S A H0 H locs) (hA : ∀ q, H0.size ≤ q → A q) (hN : jN s) (isC isR : List Nat) (hC : isC.map (fun i => ws[i]?) = wc.map some) (hRr : isR.map (fun i => ws[i]?) = wr.map some) (hnd : va_nd isR = true) (hnc : va_nd isC = true) (hdis : ∀ i ∈ isR, i ∉ isC) (q0 ci : Nat) {q : vw_C} {fs : List Value} (hc : vwCl[ci]? = some q) (hCc : q.1 = C) (he : ws[q0]? = some (b, .inr (ci, fs))) (hn : As.length = n) (hsize : ls.size = nL) (hstack : st0 = As.reverse ++ .ref b :: rest) (hW : (rest.map fun v => v.category).sum ≤ 8) (hdg : decode cc pc = .ok (.invokevirtual index, 3)) (hf : cells ≤ R.cells ∧ slots ≤ R.slots) (kk : ∀ (r : Int64) (u : U9) (H1 : Heap) (locs1 : List Loc), post r u → va_P D vwCl (wr ++ w1 u) H1 → va_D A (wr ++ w1 u) → va_S A H0 H1 locs1 → W p l e R s m args below meth c H1 locs1 cells slots Q (F0 m (pc + 3) ls (.long r :: rest))) : W p l e R s m args below meth c H locs cells slots Q (F0 m pc ls st0) := by
  have hPc := hP.sub isC (by
    have h9 := congrArg (fun l => l.filterMap id) hC
    simpa [List.filterMap_map, Function.comp_def] using h9)
  have hDc : va_D A wc := hD.sub isC hnc hC
  have hFc := va_free (wc := wc) hD hS hA isC hC
  refine va_calll (va_runV S hM cw ⟨jBw_blind, (by subst hCc; exact va_recv hK hP hc he), fun U hU hWm => ⟨rfl, by rw [hU], by rw [hU]; exact hPc, va_K.moved hWm.alike hK, hDc.weaken (fun _ _ _ _ => trivial), jN.warm hWm hN⟩⟩ rfl hn hsize hstack (lv_room hW) hdg hf) hS (fun q _ h => hFc q h) hFc (fun r u t H1 locs1 ht hvm hw hB hz1 hk1 hS1 => ?_)
  obtain ⟨hP1, hK1, hD1⟩ := hB
  rw [ht] at hP1
  obtain ⟨hP2, hD2⟩ := va_join hP hD isC isR hC hRr hnd hdis hk1 hFc hP1 hD1
  exact kk r u H1 locs1 hw hP2 hD2 hS1
theorem jwSl {U9 : Type} {post : Int64 → U9 → Prop} {w1 : U9 → va_W} (S : CallFix p m c cc nL s args Ts own) (hM : Met l y (Cond.code y bytes maxL ret :: TBL) rm (va_Pc (As) (jBw D tys wc H.size)) (va_Ql post (fun u t => jE D tys wc H.size (w1 u) t) (va_A wc H.size)) 0 0 (va_A wc H.size)) (cw : CallB R s args own index y bytes maxL ret (Cond.code y bytes maxL ret :: TBL) rm 0 0 n ∧ (Cond.static y).before args s = true) (hK : va_K D vwCl tys s) (hP : va_P D vwCl ws H) (hD : va_D A ws) (hS : va_S A H0 H locs) (hA : ∀ q, H0.size ≤ q → A q) (hN : jN s) (isC isR : List Nat) (hC : isC.map (fun i => ws[i]?) = wc.map some) (hRr : isR.map (fun i => ws[i]?) = wr.map some) (hnd : va_nd isR = true) (hnc : va_nd isC = true) (hdis : ∀ i ∈ isR, i ∉ isC) (hn : As.length = n) (hsize : ls.size = nL) (hstack : st0 = As.reverse ++ rest) (hW : (rest.map fun v => v.category).sum ≤ 8) (hdg : decode cc pc = .ok (.invokestatic index, 3)) (hf : cells ≤ R.cells ∧ slots ≤ R.slots) (kk : ∀ (r : Int64) (u : U9) (H1 : Heap) (locs1 : List Loc), post r u → va_P D vwCl (wr ++ w1 u) H1 → va_D A (wr ++ w1 u) → va_S A H0 H1 locs1 → W p l e R s m args below meth c H1 locs1 cells slots Q (F0 m (pc + 3) ls (.long r :: rest))) : W p l e R s m args below meth c H locs cells slots Q (F0 m pc ls st0) := by
  have hPc := hP.sub isC (by
    have h9 := congrArg (fun l => l.filterMap id) hC
    simpa [List.filterMap_map, Function.comp_def] using h9)
  have hDc : va_D A wc := hD.sub isC hnc hC
  have hFc := va_free (wc := wc) hD hS hA isC hC
  refine va_calll (va_runS S hM cw ⟨jBw_blind, fun U hU hWm => ⟨rfl, by rw [hU], by rw [hU]; exact hPc, va_K.moved hWm.alike hK, hDc.weaken (fun _ _ _ _ => trivial), jN.warm hWm hN⟩⟩ rfl hn hsize hstack (lv_room hW) hdg hf) hS (fun q _ h => hFc q h) hFc (fun r u t H1 locs1 ht hvm hw hB hz1 hk1 hS1 => ?_)
  obtain ⟨hP1, hK1, hD1⟩ := hB
  rw [ht] at hP1
  obtain ⟨hP2, hD2⟩ := va_join hP hD isC isR hC hRr hnd hdis hk1 hFc hP1 hD1
  exact kk r u H1 locs1 hw hP2 hD2 hS1
theorem jwVv {U9 : Type} {post : U9 → Prop} {w1 : U9 → va_W} (S : CallFix p m c cc nL s args Ts own) (hM : Met l y (Cond.code y bytes maxL ret :: TBL) rm (va_Pc (.ref b :: As) (jBw D tys wc H.size)) (va_Qv post (fun u t => jE D tys wc H.size (w1 u) t) (va_A wc H.size)) 0 0 (va_A wc H.size)) (cw : CallW R s args own C index y bytes maxL ret (Cond.code y bytes maxL ret :: TBL) rm 0 0 n) (hK : va_K D vwCl tys s) (hP : va_P D vwCl ws H) (hD : va_D A ws) (hS : va_S A H0 H locs) (hA : ∀ q, H0.size ≤ q → A q) (hN : jN s) (isC isR : List Nat) (hC : isC.map (fun i => ws[i]?) = wc.map some) (hRr : isR.map (fun i => ws[i]?) = wr.map some) (hnd : va_nd isR = true) (hnc : va_nd isC = true) (hdis : ∀ i ∈ isR, i ∉ isC) (q0 ci : Nat) {q : vw_C} {fs : List Value} (hc : vwCl[ci]? = some q) (hCc : q.1 = C) (he : ws[q0]? = some (b, .inr (ci, fs))) (hn : As.length = n) (hsize : ls.size = nL) (hstack : st0 = As.reverse ++ .ref b :: rest) (hW : (rest.map fun v => v.category).sum ≤ 8) (hdg : decode cc pc = .ok (.invokevirtual index, 3)) (hf : cells ≤ R.cells ∧ slots ≤ R.slots) (kk : ∀ (u : U9) (H1 : Heap) (locs1 : List Loc), post u → va_P D vwCl (wr ++ w1 u) H1 → va_D A (wr ++ w1 u) → va_S A H0 H1 locs1 → W p l e R s m args below meth c H1 locs1 cells slots Q (F0 m (pc + 3) ls (rest))) : W p l e R s m args below meth c H locs cells slots Q (F0 m pc ls st0) := by
  have hPc := hP.sub isC (by
    have h9 := congrArg (fun l => l.filterMap id) hC
    simpa [List.filterMap_map, Function.comp_def] using h9)
  have hDc : va_D A wc := hD.sub isC hnc hC
  have hFc := va_free (wc := wc) hD hS hA isC hC
  refine va_callv (va_runV S hM cw ⟨jBw_blind, (by subst hCc; exact va_recv hK hP hc he), fun U hU hWm => ⟨rfl, by rw [hU], by rw [hU]; exact hPc, va_K.moved hWm.alike hK, hDc.weaken (fun _ _ _ _ => trivial), jN.warm hWm hN⟩⟩ rfl hn hsize hstack (lv_room hW) hdg hf) hS (fun q _ h => hFc q h) hFc (fun u t H1 locs1 ht hvm hw hB hz1 hk1 hS1 => ?_)
  obtain ⟨hP1, hK1, hD1⟩ := hB
  rw [ht] at hP1
  obtain ⟨hP2, hD2⟩ := va_join hP hD isC isR hC hRr hnd hdis hk1 hFc hP1 hD1
  exact kk u H1 locs1 hw hP2 hD2 hS1
theorem jwSv {U9 : Type} {post : U9 → Prop} {w1 : U9 → va_W} (S : CallFix p m c cc nL s args Ts own) (hM : Met l y (Cond.code y bytes maxL ret :: TBL) rm (va_Pc (As) (jBw D tys wc H.size)) (va_Qv post (fun u t => jE D tys wc H.size (w1 u) t) (va_A wc H.size)) 0 0 (va_A wc H.size)) (cw : CallB R s args own index y bytes maxL ret (Cond.code y bytes maxL ret :: TBL) rm 0 0 n ∧ (Cond.static y).before args s = true) (hK : va_K D vwCl tys s) (hP : va_P D vwCl ws H) (hD : va_D A ws) (hS : va_S A H0 H locs) (hA : ∀ q, H0.size ≤ q → A q) (hN : jN s) (isC isR : List Nat) (hC : isC.map (fun i => ws[i]?) = wc.map some) (hRr : isR.map (fun i => ws[i]?) = wr.map some) (hnd : va_nd isR = true) (hnc : va_nd isC = true) (hdis : ∀ i ∈ isR, i ∉ isC) (hn : As.length = n) (hsize : ls.size = nL) (hstack : st0 = As.reverse ++ rest) (hW : (rest.map fun v => v.category).sum ≤ 8) (hdg : decode cc pc = .ok (.invokestatic index, 3)) (hf : cells ≤ R.cells ∧ slots ≤ R.slots) (kk : ∀ (u : U9) (H1 : Heap) (locs1 : List Loc), post u → va_P D vwCl (wr ++ w1 u) H1 → va_D A (wr ++ w1 u) → va_S A H0 H1 locs1 → W p l e R s m args below meth c H1 locs1 cells slots Q (F0 m (pc + 3) ls (rest))) : W p l e R s m args below meth c H locs cells slots Q (F0 m pc ls st0) := by
  have hPc := hP.sub isC (by
    have h9 := congrArg (fun l => l.filterMap id) hC
    simpa [List.filterMap_map, Function.comp_def] using h9)
  have hDc : va_D A wc := hD.sub isC hnc hC
  have hFc := va_free (wc := wc) hD hS hA isC hC
  refine va_callv (va_runS S hM cw ⟨jBw_blind, fun U hU hWm => ⟨rfl, by rw [hU], by rw [hU]; exact hPc, va_K.moved hWm.alike hK, hDc.weaken (fun _ _ _ _ => trivial), jN.warm hWm hN⟩⟩ rfl hn hsize hstack (lv_room hW) hdg hf) hS (fun q _ h => hFc q h) hFc (fun u t H1 locs1 ht hvm hw hB hz1 hk1 hS1 => ?_)
  obtain ⟨hP1, hK1, hD1⟩ := hB
  rw [ht] at hP1
  obtain ⟨hP2, hD2⟩ := va_join hP hD isC isR hC hRr hnd hdis hk1 hFc hP1 hD1
  exact kk u H1 locs1 hw hP2 hD2 hS1
end JC
/-- a contract out of its walk, the room and the end by names -/
theorem jMet {l : Launch} {y : MethodName} {ws ws' : List Cond} {rm : Room} {Pc : Array Value → State → Prop} {Qc : Array Value → State → Outcome → State → Prop} {mc ms : Nat} {free : Addr → Prop} {cc : ByteArray} {maxL : Nat} {ret : Option FieldType}
    (hy : plainName y.cls = true) (hw : ws = Cond.code y cc maxL ret :: ws')
    (body : ∀ p e s m args below meth c s₁ R Q, R = (headSpec ws rm).room → Q = MQ below Qc args s mc ms free → BodyLoose p l y (headSpec ws rm) cc maxL ret e s m args below meth c s₁ → c.maxLocals = maxL → Pc args s →
      W p l e R s m args below meth c s.heap [] 0 0 Q (entryFrame m args maxL)) : Met l y ws rm Pc Qc mc ms free :=
  Met.ofW hy hw (fun p e s m args below meth c s₁ B hml hP => body p e s m args below meth c s₁ _ _ rfl rfl B hml hP)
end
section
/-! bits as whole numbers -/
def jpow (k : Int) : Int := ((2 ^ k.toNat : Nat) : Int)
def jand (a b : Int) : Int := ((a.toNat &&& b.toNat : Nat) : Int)
def jor (a b : Int) : Int := ((a.toNat ||| b.toNat : Nat) : Int)
def jushr (x k : Int) : Int := (x % 18446744073709551616) / ((2 ^ k.toNat : Nat) : Int)
theorem jz {z : Int} (h : 0 ≤ z ∧ z ≤ 1) : narrow .boolean (.int (jI z)) = .int (jI z) := by
  have h2 : z = 0 ∨ z = 1 := by omega
  rcases h2 with rfl | rfl <;> decide
theorem jI_shl1_n : ∀ n, n < 32 → jI 1 <<< (jI (n : Nat) &&& 31) = jI ((2 ^ n : Nat) : Int) := by decide +kernel
theorem jI_shl1 {k : Int} (h0 : 0 ≤ k) (h1 : k < 32) : jI 1 <<< (jI k &&& 31) = jI (jpow k) := by
  have h := jI_shl1_n k.toNat (by omega)
  rw [Int.toNat_of_nonneg h0] at h
  exact h
theorem jI_bv (n : Nat) : (jI (n : Int)).toBitVec = BitVec.ofNat 32 n := by
  show BitVec.ofInt 32 (n : Int) = _
  exact BitVec.ofInt_natCast 32 n
theorem jI_and {a b : Int} (ha : 0 ≤ a) (hb : 0 ≤ b) : jI a &&& jI b = jI (jand a b) := by
  obtain ⟨n, rfl⟩ := Int.eq_ofNat_of_zero_le ha
  obtain ⟨k, rfl⟩ := Int.eq_ofNat_of_zero_le hb
  apply Int32.toBitVec_inj.mp
  rw [Int32.toBitVec_and, jI_bv, jI_bv, jand, jI_bv]
  apply BitVec.eq_of_getLsbD_eq
  intro i hi
  simp [BitVec.getLsbD_ofNat, Nat.testBit_and, hi]
theorem jI_or {a b : Int} (ha : 0 ≤ a) (hb : 0 ≤ b) : jI a ||| jI b = jI (jor a b) := by
  obtain ⟨n, rfl⟩ := Int.eq_ofNat_of_zero_le ha
  obtain ⟨k, rfl⟩ := Int.eq_ofNat_of_zero_le hb
  apply Int32.toBitVec_inj.mp
  rw [Int32.toBitVec_or, jI_bv, jI_bv, jor, jI_bv]
  apply BitVec.eq_of_getLsbD_eq
  intro i hi
  simp [BitVec.getLsbD_ofNat, Nat.testBit_or, hi]
theorem jL_bv (x : Int) : (jL x).toBitVec = BitVec.ofInt 64 x := rfl
theorem jL_nat (x : Int) : (jL x).toUInt64.toNat = (x % 18446744073709551616).toNat := by
  show (BitVec.ofInt 64 x).toNat = _
  rw [BitVec.toNat_ofInt]; rfl
theorem jsh_n : ∀ n, n < 64 → (((jI (n : Nat)).toInt64.toUInt64 &&& Int64.toUInt64 63).toNat) = n := by decide +kernel
theorem jL_ushr {x k : Int} (h0 : 0 ≤ k) (h1 : k < 64) : ((jL x).toUInt64 >>> ((jI k).toInt64.toUInt64 &&& Int64.toUInt64 63)).toInt64 = jL (jushr x k) := by
  have hk := jsh_n k.toNat (by omega)
  rw [Int.toNat_of_nonneg h0] at hk
  apply Int64.toBitVec_inj.mp
  show ((jL x).toUInt64 >>> ((jI k).toInt64.toUInt64 &&& Int64.toUInt64 63)).toBitVec = BitVec.ofInt 64 (jushr x k)
  apply BitVec.eq_of_toNat_eq
  rw [BitVec.toNat_ofInt]
  have e1 : ((jL x).toUInt64 >>> ((jI k).toInt64.toUInt64 &&& Int64.toUInt64 63)).toBitVec.toNat = (x % 18446744073709551616).toNat / 2 ^ k.toNat := by
    show ((jL x).toUInt64 >>> ((jI k).toInt64.toUInt64 &&& Int64.toUInt64 63)).toNat = _
    rw [UInt64.toNat_shiftRight, jL_nat, hk, Nat.mod_eq_of_lt (show k.toNat < 64 by omega), Nat.shiftRight_eq_div_pow]
  rw [e1]
  have hx := Int.emod_nonneg x (show (18446744073709551616 : Int) ≠ 0 by decide)
  have hx2 := Int.emod_lt_of_pos x (show (0 : Int) < 18446744073709551616 by decide)
  obtain ⟨y, hy⟩ := Int.eq_ofNat_of_zero_le hx
  unfold jushr
  rw [hy] at hx2 ⊢
  have hlt : y / 2 ^ k.toNat < 18446744073709551616 := Nat.lt_of_le_of_lt (Nat.div_le_self _ _) (by omega)
  show y / 2 ^ k.toNat = (((y : Int) / ((2 ^ k.toNat : Nat) : Int)) % ((2 ^ 64 : Nat) : Int)).toNat
  rw [← Int.natCast_ediv, ← Int.natCast_emod, Int.toNat_natCast]
  exact (Nat.mod_eq_of_lt (by omega)).symm
theorem jL_255 (x : Int) : jL x &&& jL 255 = jL (x % 256) := by
  apply Int64.toBitVec_inj.mp
  rw [Int64.toBitVec_and]
  show BitVec.ofInt 64 x &&& BitVec.ofInt 64 255 = BitVec.ofInt 64 (x % 256)
  apply BitVec.eq_of_toNat_eq
  rw [BitVec.toNat_and, BitVec.toNat_ofInt, BitVec.toNat_ofInt, BitVec.toNat_ofInt]
  have h2 : ((255 : Int) % ((2 ^ 64 : Nat) : Int)).toNat = 2 ^ 8 - 1 := by decide
  rw [h2, Nat.and_two_pow_sub_one_eq_mod]
  omega
section JB
variable {p : Program} {l : Launch} {e : Env} {R : Room} {s : State} {m : MethodId} {args : Array Value} {below : List Frame} {meth : Method} {c : Code} {H : Heap} {locs : List Loc} {cells slots : Nat} {Q : State → Prop}
variable {cc : ByteArray} {pc : Nat} {ls : Array Slot} {rest : List Value}
theorem ji_ishl1 (hx : p.tables.exec = Jvm.exec) (hb : c.code = cc) {k : Int} (hdg : decode cc pc = .ok (.ishl, 1)) (h0 : 0 ≤ k) (h1 : k < 32) (kk : W p l e R s m args below meth c H locs cells slots Q (F0 m (pc + 1) ls (.int (jI (jpow k)) :: rest))) : W p l e R s m args below meth c H locs cells slots Q (F0 m pc ls (.int (jI k) :: .int (jI 1) :: rest)) := lv_ishl hx hb hdg (by rw [jI_shl1 h0 h1]; exact kk)
theorem ji_iand (hx : p.tables.exec = Jvm.exec) (hb : c.code = cc) {x y : Int} (hdg : decode cc pc = .ok (.iand, 1)) (h0 : 0 ≤ x) (h1 : 0 ≤ y) (kk : W p l e R s m args below meth c H locs cells slots Q (F0 m (pc + 1) ls (.int (jI (jand x y)) :: rest))) : W p l e R s m args below meth c H locs cells slots Q (F0 m pc ls (.int (jI y) :: .int (jI x) :: rest)) := lv_iand hx hb hdg (by rw [jI_and h0 h1]; exact kk)
theorem ji_ior (hx : p.tables.exec = Jvm.exec) (hb : c.code = cc) {x y : Int} (hdg : decode cc pc = .ok (.ior, 1)) (h0 : 0 ≤ x) (h1 : 0 ≤ y) (kk : W p l e R s m args below meth c H locs cells slots Q (F0 m (pc + 1) ls (.int (jI (jor x y)) :: rest))) : W p l e R s m args below meth c H locs cells slots Q (F0 m pc ls (.int (jI y) :: .int (jI x) :: rest)) := lv_ior hx hb hdg (by rw [jI_or h0 h1]; exact kk)
theorem ji_lushr (hx : p.tables.exec = Jvm.exec) (hb : c.code = cc) {x k : Int} (hdg : decode cc pc = .ok (.lushr, 1)) (h : 0 ≤ k ∧ k < 64) (kk : W p l e R s m args below meth c H locs cells slots Q (F0 m (pc + 1) ls (.long (jL (jushr x k)) :: rest))) : W p l e R s m args below meth c H locs cells slots Q (F0 m pc ls (.int (jI k) :: .long (jL x) :: rest)) := lv_lushr hx hb hdg (jL_ushr h.1 h.2) kk
theorem ji_land255 (hx : p.tables.exec = Jvm.exec) (hb : c.code = cc) {x : Int} (hdg : decode cc pc = .ok (.land, 1)) (kk : W p l e R s m args below meth c H locs cells slots Q (F0 m (pc + 1) ls (.long (jL (x % 256)) :: rest))) : W p l e R s m args below meth c H locs cells slots Q (F0 m pc ls (.long (jL 255) :: .long (jL x) :: rest)) := lv_land hx hb hdg (by rw [jL_255]; exact kk)
end JB
/-! facts about them -/
theorem jpow_pos (k : Int) : 0 < jpow k := by unfold jpow; exact Int.natCast_pos.mpr (Nat.two_pow_pos _)
theorem jand_nn (a b : Int) : 0 ≤ jand a b := Int.natCast_nonneg _
theorem jor_nn (a b : Int) : 0 ≤ jor a b := Int.natCast_nonneg _
theorem jand_le {a : Int} (h : 0 ≤ a) (b : Int) : jand a b ≤ a := by
  unfold jand
  have := Nat.and_le_left (n := a.toNat) (m := b.toNat)
  omega
theorem jpow_lt {k : Int} (h : k < 31) : jpow k < 2147483648 := by
  unfold jpow
  have h1 : 2 ^ k.toNat ≤ 2 ^ 30 := Nat.pow_le_pow_right (by omega) (by omega)
  have h2 : (2 : Nat) ^ 30 = 1073741824 := by decide
  omega
theorem jor_lt {a b : Int} (ha : a < 2147483648) (hb : b < 2147483648) : jor a b < 2147483648 := by
  unfold jor
  have h := Nat.or_lt_two_pow (x := a.toNat) (y := b.toNat) (n := 31) (by omega) (by omega)
  omega
/-! a value that nothing unfolds -/
noncomputable def jopq {α : Type} (x : α) : α := Classical.choose (⟨x, rfl⟩ : ∃ h : α, h = x)
theorem jopq_eq {α : Type} (x : α) : jopq x = x := Classical.choose_spec (⟨x, rfl⟩ : ∃ h : α, h = x)
end
section
noncomputable def g_XG_hasBit (zb : Int) (zk : Int) : Int :=
  if (jand zb (jpow zk)) = 0 then
    0
  else
    1
noncomputable def f_XG_hasBit : Int → Int → Int := jopq g_XG_hasBit
theorem f_XG_hasBit_q : f_XG_hasBit = g_XG_hasBit := jopq_eq _
theorem f_XG_hasBit_s (zb : Int) (zk : Int) : f_XG_hasBit zb zk = (
    if (jand zb (jpow zk)) = 0 then
      0
    else
      1
  ) := by rw [f_XG_hasBit_q]; rfl
theorem f_XG_hasBit_01 (zb zk : Int) (h1 : 0 ≤ zb ∧ zb < 2147483648) (h2 : 0 ≤ zk ∧ zk < 31) : 0 ≤ f_XG_hasBit zb zk ∧ f_XG_hasBit zb zk ≤ 1 := by rw [f_XG_hasBit_s]; split <;> omega
set_option maxHeartbeats 4000000 in
set_option maxRecDepth 100000 in
theorem c_XG_hasBit (l : Launch) (dC : Nat → ClassId) (dI : Nat → Nat → Nat) (cA : ClassId) (zb : Int) (zk : Int) (h1 : 0 ≤ zb ∧ zb < 2147483648) (h2 : 0 ≤ zk ∧ zk < 31) : Met l yXG_hasBit (Cond.code yXG_hasBit cXG_hasBit 2 (some .boolean) :: TBL) ({ frames := 0, cells := 0, slots := 0, locals := 0 } : Room) (va_Pc [.int (jI zb), .int (jI zk)] (jB (dC, dI) [(cA, .int)] [])) (vp_Si (fun r => r = jI (f_XG_hasBit zb zk))) 0 0 (fun _ => False) := by
  refine jMet (cc := cXG_hasBit) (maxL := 2) (ret := some .boolean) (by decide) rfl ?_
  intro p e s m args below meth c s₁ R Q hR hQ B hml hv
  obtain ⟨rfl, hP, hK, hN⟩ := hv
  have hx := B.exec
  have hb := B.bytes
  have hr := B.returns
  have hts := atoms_spec (ws := Cond.code yXG_hasBit cXG_hasBit 2 (some .boolean) :: TBL) B.pre
  have hown : s.vm.findClass RXG = some m.cls := findClass_of_methodNamed B.named
  have hlocks := B.notSynchronized
  have hP : va_P (dC, dI) vwCl [] s.heap := hP
  have hl := lv_entry ([.int (jI zb), .int (jI zk)]) (n := 2) (Nat.le_of_ble_eq_true rfl)
  rw [lg_entry_eq]
  generalize (lg_sl ([.int (jI zb), .int (jI zk)]) ++ List.replicate (2 - (lg_sl ([.int (jI zb), .int (jI zk)])).length) Slot.unset).toArray = ls at hl ⊢
  have hl : lv_has ls 2 [(0, .int (jI zb)), (1, .int (jI zk))] := hl
  have q1 := jpow_pos zk
  have q2 := jand_nn zb (jpow zk)
  have q3 := jand_le h1.1 (jpow zk)
  refine lv_iload_n hx hb dXG_hasBit_0 rfl (lv_at hl 0 rfl) ?_
  refine ji_iconst hx hb dXG_hasBit_1 ?_
  refine lv_iload_n hx hb dXG_hasBit_2 rfl (lv_at hl 1 rfl) ?_
  refine ji_ishl1 hx hb dXG_hasBit_3 (by omega) (by omega) ?_
  refine ji_iand hx hb dXG_hasBit_4 (by omega) (by omega) ?_
  refine ji_if_eq (tgt := 12) hx hb dXG_hasBit_5 (by decide) (by omega) (fun c5_ => ?_) (fun c5_ => ?_)
  · refine ji_iconst hx hb dXG_hasBit_12 ?_
    subst hQ
    exact W.zret (v := jI 0) hx hb hr (by first | decide | exact jz (by omega)) (fun t ht hW => ⟨_, rfl, congrArg jI (Eq.trans (by rw [f_XG_hasBit_s]; rw [if_pos c5_]; try rfl) rfl), ht⟩) (fun _ h => nomatch h) dXG_hasBit_13
  · refine ji_iconst hx hb dXG_hasBit_8 ?_
    refine lv_goto (tgt := 13) hx hb dXG_hasBit_9 (by decide) ?_
    subst hQ
    exact W.zret (v := jI 1) hx hb hr (by first | decide | exact jz (by omega)) (fun t ht hW => ⟨_, rfl, congrArg jI (Eq.trans (by rw [f_XG_hasBit_s]; rw [if_neg c5_]; try rfl) rfl), ht⟩) (fun _ h => nomatch h) dXG_hasBit_13
noncomputable def g_XG_isDigit (zs : Int) : Int :=
  if zs < 48 then
    0
  else
    if 57 < zs then
      0
    else
      1
noncomputable def f_XG_isDigit : Int → Int := jopq g_XG_isDigit
theorem f_XG_isDigit_q : f_XG_isDigit = g_XG_isDigit := jopq_eq _
theorem f_XG_isDigit_s (zs : Int) : f_XG_isDigit zs = (
    if zs < 48 then
      0
    else
      if 57 < zs then
        0
      else
        1
  ) := by rw [f_XG_isDigit_q]; rfl
theorem f_XG_isDigit_01 (zs : Int) (h1 : i32 zs) : (f_XG_isDigit zs = 1 ∧ 48 ≤ zs ∧ zs ≤ 57) ∨ (f_XG_isDigit zs = 0 ∧ (zs < 48 ∨ 57 < zs)) := by rw [f_XG_isDigit_s]; split <;> (try split) <;> omega
set_option maxHeartbeats 4000000 in
set_option maxRecDepth 100000 in
theorem c_XG_isDigit (l : Launch) (dC : Nat → ClassId) (dI : Nat → Nat → Nat) (cA : ClassId) (zs : Int) (h1 : i32 zs) : Met l yXG_isDigit (Cond.code yXG_isDigit cXG_isDigit 1 (some .boolean) :: TBL) ({ frames := 0, cells := 0, slots := 0, locals := 0 } : Room) (va_Pc [.int (jI zs)] (jB (dC, dI) [(cA, .int)] [])) (vp_Si (fun r => r = jI (f_XG_isDigit zs))) 0 0 (fun _ => False) := by
  refine jMet (cc := cXG_isDigit) (maxL := 1) (ret := some .boolean) (by decide) rfl ?_
  intro p e s m args below meth c s₁ R Q hR hQ B hml hv
  obtain ⟨rfl, hP, hK, hN⟩ := hv
  have hx := B.exec
  have hb := B.bytes
  have hr := B.returns
  have hts := atoms_spec (ws := Cond.code yXG_isDigit cXG_isDigit 1 (some .boolean) :: TBL) B.pre
  have hown : s.vm.findClass RXG = some m.cls := findClass_of_methodNamed B.named
  have hlocks := B.notSynchronized
  have hP : va_P (dC, dI) vwCl [] s.heap := hP
  have hl := lv_entry ([.int (jI zs)]) (n := 1) (Nat.le_of_ble_eq_true rfl)
  rw [lg_entry_eq]
  generalize (lg_sl ([.int (jI zs)]) ++ List.replicate (1 - (lg_sl ([.int (jI zs)])).length) Slot.unset).toArray = ls at hl ⊢
  have hl : lv_has ls 1 [(0, .int (jI zs))] := hl
  refine lv_iload_n hx hb dXG_isDigit_0 rfl (lv_at hl 0 rfl) ?_
  refine ji_bipush hx hb dXG_isDigit_1 (by decide) ?_
  refine ji_icmp_lt (tgt := 16) hx hb dXG_isDigit_3 (by decide) (by omega) (by omega) (fun c3_ => ?_) (fun c3_ => ?_)
  · refine ji_iconst hx hb dXG_isDigit_16 ?_
    subst hQ
    exact W.zret (v := jI 0) hx hb hr (by first | decide | exact jz (by omega)) (fun t ht hW => ⟨_, rfl, congrArg jI (Eq.trans (by rw [f_XG_isDigit_s]; rw [if_pos c3_]; try rfl) rfl), ht⟩) (fun _ h => nomatch h) dXG_isDigit_17
  · refine lv_iload_n hx hb dXG_isDigit_6 rfl (lv_at hl 0 rfl) ?_
    refine ji_bipush hx hb dXG_isDigit_7 (by decide) ?_
    refine ji_icmp_gt (tgt := 16) hx hb dXG_isDigit_9 (by decide) (by omega) (by omega) (fun c9_ => ?_) (fun c9_ => ?_)
    · refine ji_iconst hx hb dXG_isDigit_16 ?_
      subst hQ
      exact W.zret (v := jI 0) hx hb hr (by first | decide | exact jz (by omega)) (fun t ht hW => ⟨_, rfl, congrArg jI (Eq.trans (by rw [f_XG_isDigit_s]; rw [if_neg (Int.not_lt.mpr c3_), if_pos c9_]; try rfl) rfl), ht⟩) (fun _ h => nomatch h) dXG_isDigit_17
    · refine ji_iconst hx hb dXG_isDigit_12 ?_
      refine lv_goto (tgt := 17) hx hb dXG_isDigit_13 (by decide) ?_
      subst hQ
      exact W.zret (v := jI 1) hx hb hr (by first | decide | exact jz (by omega)) (fun t ht hW => ⟨_, rfl, congrArg jI (Eq.trans (by rw [f_XG_isDigit_s]; rw [if_neg (Int.not_lt.mpr c3_), if_neg (Int.not_lt.mpr c9_)]; try rfl) rfl), ht⟩) (fun _ h => nomatch h) dXG_isDigit_17
noncomputable def g_XG_isElement (zs : Int) : Int :=
  if zs < 65 then
    0
  else
    if zs < 73 then
      1
    else
      0
noncomputable def f_XG_isElement : Int → Int := jopq g_XG_isElement
theorem f_XG_isElement_q : f_XG_isElement = g_XG_isElement := jopq_eq _
theorem f_XG_isElement_s (zs : Int) : f_XG_isElement zs = (
    if zs < 65 then
      0
    else
      if zs < 73 then
        1
      else
        0
  ) := by rw [f_XG_isElement_q]; rfl
theorem f_XG_isElement_01 (zs : Int) (h1 : i32 zs) : (f_XG_isElement zs = 1 ∧ 65 ≤ zs ∧ zs < 73) ∨ (f_XG_isElement zs = 0 ∧ (zs < 65 ∨ 73 ≤ zs)) := by rw [f_XG_isElement_s]; split <;> (try split) <;> omega
set_option maxHeartbeats 4000000 in
set_option maxRecDepth 100000 in
theorem c_XG_isElement (l : Launch) (dC : Nat → ClassId) (dI : Nat → Nat → Nat) (cA : ClassId) (zs : Int) (h1 : i32 zs) : Met l yXG_isElement (Cond.code yXG_isElement cXG_isElement 1 (some .boolean) :: TBL) ({ frames := 0, cells := 0, slots := 0, locals := 0 } : Room) (va_Pc [.int (jI zs)] (jB (dC, dI) [(cA, .int)] [])) (vp_Si (fun r => r = jI (f_XG_isElement zs))) 0 0 (fun _ => False) := by
  refine jMet (cc := cXG_isElement) (maxL := 1) (ret := some .boolean) (by decide) rfl ?_
  intro p e s m args below meth c s₁ R Q hR hQ B hml hv
  obtain ⟨rfl, hP, hK, hN⟩ := hv
  have hx := B.exec
  have hb := B.bytes
  have hr := B.returns
  have hts := atoms_spec (ws := Cond.code yXG_isElement cXG_isElement 1 (some .boolean) :: TBL) B.pre
  have hown : s.vm.findClass RXG = some m.cls := findClass_of_methodNamed B.named
  have hlocks := B.notSynchronized
  have hP : va_P (dC, dI) vwCl [] s.heap := hP
  have hl := lv_entry ([.int (jI zs)]) (n := 1) (Nat.le_of_ble_eq_true rfl)
  rw [lg_entry_eq]
  generalize (lg_sl ([.int (jI zs)]) ++ List.replicate (1 - (lg_sl ([.int (jI zs)])).length) Slot.unset).toArray = ls at hl ⊢
  have hl : lv_has ls 1 [(0, .int (jI zs))] := hl
  refine lv_iload_n hx hb dXG_isElement_0 rfl (lv_at hl 0 rfl) ?_
  refine ji_bipush hx hb dXG_isElement_1 (by decide) ?_
  refine ji_icmp_lt (tgt := 16) hx hb dXG_isElement_3 (by decide) (by omega) (by omega) (fun c3_ => ?_) (fun c3_ => ?_)
  · refine ji_iconst hx hb dXG_isElement_16 ?_
    subst hQ
    exact W.zret (v := jI 0) hx hb hr (by first | decide | exact jz (by omega)) (fun t ht hW => ⟨_, rfl, congrArg jI (Eq.trans (by rw [f_XG_isElement_s]; rw [if_pos c3_]; try rfl) rfl), ht⟩) (fun _ h => nomatch h) dXG_isElement_17
  · refine lv_iload_n hx hb dXG_isElement_6 rfl (lv_at hl 0 rfl) ?_
    refine ji_bipush hx hb dXG_isElement_7 (by decide) ?_
    refine ji_icmp_ge (tgt := 16) hx hb dXG_isElement_9 (by decide) (by omega) (by omega) (fun c9_ => ?_) (fun c9_ => ?_)
    · refine ji_iconst hx hb dXG_isElement_16 ?_
      subst hQ
      exact W.zret (v := jI 0) hx hb hr (by first | decide | exact jz (by omega)) (fun t ht hW => ⟨_, rfl, congrArg jI (Eq.trans (by rw [f_XG_isElement_s]; rw [if_neg (Int.not_lt.mpr c3_), if_neg (Int.not_lt.mpr c9_)]; try rfl) rfl), ht⟩) (fun _ h => nomatch h) dXG_isElement_17
    · refine ji_iconst hx hb dXG_isElement_12 ?_
      refine lv_goto (tgt := 17) hx hb dXG_isElement_13 (by decide) ?_
      subst hQ
      exact W.zret (v := jI 1) hx hb hr (by first | decide | exact jz (by omega)) (fun t ht hW => ⟨_, rfl, congrArg jI (Eq.trans (by rw [f_XG_isElement_s]; rw [if_neg (Int.not_lt.mpr c3_), if_pos c9_]; try rfl) rfl), ht⟩) (fun _ h => nomatch h) dXG_isElement_17
end
section
noncomputable def g_XT_empty (tn : Int) (tp : Int) (tw : Int) (tf : Int → Int) : Int :=
  0
noncomputable def f_XT_empty : Int → Int → Int → (Int → Int) → Int := jopq g_XT_empty
theorem f_XT_empty_q : f_XT_empty = g_XT_empty := jopq_eq _
theorem f_XT_empty_s (tn : Int) (tp : Int) (tw : Int) (tf : Int → Int) : f_XT_empty tn tp tw tf = (
    0
  ) := by rw [f_XT_empty_q]; rfl
set_option maxHeartbeats 4000000 in
set_option maxRecDepth 100000 in
theorem c_XT_empty (l : Launch) (dC : Nat → ClassId) (dI : Nat → Nat → Nat) (cA : ClassId) (sz : Nat) (ta : Nat) (ts : Nat) (tn : Int) (tp : Int) (tw : Int) (tf : Int → Int) : Met l yXT_empty (Cond.code yXT_empty cXT_empty 1 none :: TBL) ({ frames := 0, cells := 0, slots := 0, locals := 0 } : Room) (va_Pc [.ref ta] (jBw (dC, dI) [(cA, .int)] [(ta, .inr (3, [.ref ts, .int (jI tn), .int (jI tp), .int (jI tw)])), (ts, .inl (cA, 400, .inl (jA tf)))] sz)) (va_Qv (fun (u : Int) => u = f_XT_empty tn tp tw tf) (fun u t => jE (dC, dI) [(cA, .int)] [(ta, .inr (3, [.ref ts, .int (jI tn), .int (jI tp), .int (jI tw)])), (ts, .inl (cA, 400, .inl (jA tf)))] sz [(ta, .inr (3, [.ref ts, .int (jI u), .int (jI tp), .int (jI tw)])), (ts, .inl (cA, 400, .inl (jA tf)))] t) (va_A [(ta, .inr (3, [.ref ts, .int (jI tn), .int (jI tp), .int (jI tw)])), (ts, .inl (cA, 400, .inl (jA tf)))] sz)) 0 0 (va_A [(ta, .inr (3, [.ref ts, .int (jI tn), .int (jI tp), .int (jI tw)])), (ts, .inl (cA, 400, .inl (jA tf)))] sz) := by
  refine jMet (cc := cXT_empty) (maxL := 1) (ret := none) (by decide) rfl ?_
  intro p e s m args below meth c s₁ R Q hR hQ B hml hv
  obtain ⟨rfl, hsz, hP, hK, hD0, hN⟩ := hv
  have hx := B.exec
  have hb := B.bytes
  have hr := B.returns
  have hts := atoms_spec (ws := Cond.code yXT_empty cXT_empty 1 none :: TBL) B.pre
  have hown : s.vm.findClass RXT = some m.cls := findClass_of_methodNamed B.named
  have hlocks := B.notSynchronized
  subst hsz
  obtain ⟨A, hAe⟩ : ∃ A, A = va_A [(ta, .inr (3, [.ref ts, .int (jI tn), .int (jI tp), .int (jI tw)])), (ts, .inl (cA, 400, .inl (jA tf)))] s.heap.size := ⟨_, rfl⟩
  have hD : va_D A [(ta, .inr (3, [.ref ts, .int (jI tn), .int (jI tp), .int (jI tw)])), (ts, .inl (cA, 400, .inl (jA tf)))] := by rw [hAe]; exact hD0.self
  have hA : ∀ q : Nat, s.heap.size ≤ q → A q := fun q h => by rw [hAe]; exact Or.inr h
  have hS : va_S A s.heap s.heap [] := va_S.rf
  have hP : va_P (dC, dI) vwCl [(ta, .inr (3, [.ref ts, .int (jI tn), .int (jI tp), .int (jI tw)])), (ts, .inl (cA, 400, .inl (jA tf)))] s.heap := hP
  have hl := lv_entry ([.ref ta]) (n := 1) (Nat.le_of_ble_eq_true rfl)
  rw [lg_entry_eq]
  generalize (lg_sl ([.ref ta]) ++ List.replicate (1 - (lg_sl ([.ref ta])).length) Slot.unset).toArray = ls at hl ⊢
  have hl : lv_has ls 1 [(0, .ref ta)] := hl
  refine lv_aload_n hx hb dXT_empty_0 rfl (lv_at hl 0 rfl) ?_
  refine ji_iconst hx hb dXT_empty_1 ?_
  refine va_put (D := (dC, dI)) (ci := 3) (v := .int (jI 0)) (ty := (.int)) (C := RXT) (T := TXT) (N := 4) hx hb hts (fun w h => jmem (inXT w h)) tyXT tyXT_ok nXT hown hK hP hD hS 0 rfl rfl 1 (by decide) (hts _ (jmem tw_31)) (fun _ h9 => h9) rfl (by decide +kernel) rfl rfl (Nat.le_of_ble_eq_true rfl) dXT_empty_2 (fun H locs hP hD hS => ?_)
  have hP : va_P (dC, dI) vwCl [(ta, .inr (3, [.ref ts, .int (jI 0), .int (jI tp), .int (jI tw)])), (ts, .inl (cA, 400, .inl (jA tf)))] H := hP
  have hD : va_D A [(ta, .inr (3, [.ref ts, .int (jI 0), .int (jI tp), .int (jI tw)])), (ts, .inl (cA, 400, .inl (jA tf)))] := hD
  have hP9 := hP.sub (ws' := [(ta, .inr (3, [.ref ts, .int (jI 0), .int (jI tp), .int (jI tw)])), (ts, .inl (cA, 400, .inl (jA tf)))]) [0, 1] rfl
  have hD9 := hD.sub (ws' := [(ta, .inr (3, [.ref ts, .int (jI 0), .int (jI tp), .int (jI tw)])), (ts, .inl (cA, 400, .inl (jA tf)))]) [0, 1] (by decide) rfl
  subst hAe
  subst hQ
  exact W.vret hx hb hr (fun t ht hW => ⟨⟨0, rfl, Eq.trans (by rw [f_XT_empty_s]; try rfl) rfl, ⟨by rw [ht]; exact hP9, va_K.moved hW.alike hK, hD9⟩⟩, hS.F ht⟩) hS.2.2 dXT_empty_5
noncomputable def g_XT_rewind (tn : Int) (tp : Int) (tw : Int) (tf : Int → Int) : Int :=
  0
noncomputable def f_XT_rewind : Int → Int → Int → (Int → Int) → Int := jopq g_XT_rewind
theorem f_XT_rewind_q : f_XT_rewind = g_XT_rewind := jopq_eq _
theorem f_XT_rewind_s (tn : Int) (tp : Int) (tw : Int) (tf : Int → Int) : f_XT_rewind tn tp tw tf = (
    0
  ) := by rw [f_XT_rewind_q]; rfl
set_option maxHeartbeats 4000000 in
set_option maxRecDepth 100000 in
theorem c_XT_rewind (l : Launch) (dC : Nat → ClassId) (dI : Nat → Nat → Nat) (cA : ClassId) (sz : Nat) (ta : Nat) (ts : Nat) (tn : Int) (tp : Int) (tw : Int) (tf : Int → Int) : Met l yXT_rewind (Cond.code yXT_rewind cXT_rewind 1 none :: TBL) ({ frames := 0, cells := 0, slots := 0, locals := 0 } : Room) (va_Pc [.ref ta] (jBw (dC, dI) [(cA, .int)] [(ta, .inr (3, [.ref ts, .int (jI tn), .int (jI tp), .int (jI tw)])), (ts, .inl (cA, 400, .inl (jA tf)))] sz)) (va_Qv (fun (u : Int) => u = f_XT_rewind tn tp tw tf) (fun u t => jE (dC, dI) [(cA, .int)] [(ta, .inr (3, [.ref ts, .int (jI tn), .int (jI tp), .int (jI tw)])), (ts, .inl (cA, 400, .inl (jA tf)))] sz [(ta, .inr (3, [.ref ts, .int (jI tn), .int (jI u), .int (jI tw)])), (ts, .inl (cA, 400, .inl (jA tf)))] t) (va_A [(ta, .inr (3, [.ref ts, .int (jI tn), .int (jI tp), .int (jI tw)])), (ts, .inl (cA, 400, .inl (jA tf)))] sz)) 0 0 (va_A [(ta, .inr (3, [.ref ts, .int (jI tn), .int (jI tp), .int (jI tw)])), (ts, .inl (cA, 400, .inl (jA tf)))] sz) := by
  refine jMet (cc := cXT_rewind) (maxL := 1) (ret := none) (by decide) rfl ?_
  intro p e s m args below meth c s₁ R Q hR hQ B hml hv
  obtain ⟨rfl, hsz, hP, hK, hD0, hN⟩ := hv
  have hx := B.exec
  have hb := B.bytes
  have hr := B.returns
  have hts := atoms_spec (ws := Cond.code yXT_rewind cXT_rewind 1 none :: TBL) B.pre
  have hown : s.vm.findClass RXT = some m.cls := findClass_of_methodNamed B.named
  have hlocks := B.notSynchronized
  subst hsz
  obtain ⟨A, hAe⟩ : ∃ A, A = va_A [(ta, .inr (3, [.ref ts, .int (jI tn), .int (jI tp), .int (jI tw)])), (ts, .inl (cA, 400, .inl (jA tf)))] s.heap.size := ⟨_, rfl⟩
  have hD : va_D A [(ta, .inr (3, [.ref ts, .int (jI tn), .int (jI tp), .int (jI tw)])), (ts, .inl (cA, 400, .inl (jA tf)))] := by rw [hAe]; exact hD0.self
  have hA : ∀ q : Nat, s.heap.size ≤ q → A q := fun q h => by rw [hAe]; exact Or.inr h
  have hS : va_S A s.heap s.heap [] := va_S.rf
  have hP : va_P (dC, dI) vwCl [(ta, .inr (3, [.ref ts, .int (jI tn), .int (jI tp), .int (jI tw)])), (ts, .inl (cA, 400, .inl (jA tf)))] s.heap := hP
  have hl := lv_entry ([.ref ta]) (n := 1) (Nat.le_of_ble_eq_true rfl)
  rw [lg_entry_eq]
  generalize (lg_sl ([.ref ta]) ++ List.replicate (1 - (lg_sl ([.ref ta])).length) Slot.unset).toArray = ls at hl ⊢
  have hl : lv_has ls 1 [(0, .ref ta)] := hl
  refine lv_aload_n hx hb dXT_rewind_0 rfl (lv_at hl 0 rfl) ?_
  refine ji_iconst hx hb dXT_rewind_1 ?_
  refine va_put (D := (dC, dI)) (ci := 3) (v := .int (jI 0)) (ty := (.int)) (C := RXT) (T := TXT) (N := 4) hx hb hts (fun w h => jmem (inXT w h)) tyXT tyXT_ok nXT hown hK hP hD hS 0 rfl rfl 2 (by decide) (hts _ (jmem tw_32)) (fun _ h9 => h9) rfl (by decide +kernel) rfl rfl (Nat.le_of_ble_eq_true rfl) dXT_rewind_2 (fun H locs hP hD hS => ?_)
  have hP : va_P (dC, dI) vwCl [(ta, .inr (3, [.ref ts, .int (jI tn), .int (jI 0), .int (jI tw)])), (ts, .inl (cA, 400, .inl (jA tf)))] H := hP
  have hD : va_D A [(ta, .inr (3, [.ref ts, .int (jI tn), .int (jI 0), .int (jI tw)])), (ts, .inl (cA, 400, .inl (jA tf)))] := hD
  have hP9 := hP.sub (ws' := [(ta, .inr (3, [.ref ts, .int (jI tn), .int (jI 0), .int (jI tw)])), (ts, .inl (cA, 400, .inl (jA tf)))]) [0, 1] rfl
  have hD9 := hD.sub (ws' := [(ta, .inr (3, [.ref ts, .int (jI tn), .int (jI 0), .int (jI tw)])), (ts, .inl (cA, 400, .inl (jA tf)))]) [0, 1] (by decide) rfl
  subst hAe
  subst hQ
  exact W.vret hx hb hr (fun t ht hW => ⟨⟨0, rfl, Eq.trans (by rw [f_XT_rewind_s]; try rfl) rfl, ⟨by rw [ht]; exact hP9, va_K.moved hW.alike hK, hD9⟩⟩, hS.F ht⟩) hS.2.2 dXT_rewind_5
noncomputable def g_XT_wrongPlace (tn : Int) (tp : Int) (tw : Int) (tf : Int → Int) : Int :=
  tw
noncomputable def f_XT_wrongPlace : Int → Int → Int → (Int → Int) → Int := jopq g_XT_wrongPlace
theorem f_XT_wrongPlace_q : f_XT_wrongPlace = g_XT_wrongPlace := jopq_eq _
theorem f_XT_wrongPlace_s (tn : Int) (tp : Int) (tw : Int) (tf : Int → Int) : f_XT_wrongPlace tn tp tw tf = (
    tw
  ) := by rw [f_XT_wrongPlace_q]; rfl
set_option maxHeartbeats 4000000 in
set_option maxRecDepth 100000 in
theorem c_XT_wrongPlace (l : Launch) (dC : Nat → ClassId) (dI : Nat → Nat → Nat) (cA : ClassId) (ta : Nat) (ts : Nat) (tn : Int) (tp : Int) (tw : Int) (tf : Int → Int) : Met l yXT_wrongPlace (Cond.code yXT_wrongPlace cXT_wrongPlace 1 (some .int) :: TBL) ({ frames := 0, cells := 0, slots := 0, locals := 0 } : Room) (va_Pc [.ref ta] (jB (dC, dI) [(cA, .int)] [(ta, .inr (3, [.ref ts, .int (jI tn), .int (jI tp), .int (jI tw)])), (ts, .inl (cA, 400, .inl (jA tf)))])) (vp_Si (fun r => r = jI (f_XT_wrongPlace tn tp tw tf))) 0 0 (fun _ => False) := by
  refine jMet (cc := cXT_wrongPlace) (maxL := 1) (ret := some .int) (by decide) rfl ?_
  intro p e s m args below meth c s₁ R Q hR hQ B hml hv
  obtain ⟨rfl, hP, hK, hN⟩ := hv
  have hx := B.exec
  have hb := B.bytes
  have hr := B.returns
  have hts := atoms_spec (ws := Cond.code yXT_wrongPlace cXT_wrongPlace 1 (some .int) :: TBL) B.pre
  have hown : s.vm.findClass RXT = some m.cls := findClass_of_methodNamed B.named
  have hlocks := B.notSynchronized
  have hP : va_P (dC, dI) vwCl [(ta, .inr (3, [.ref ts, .int (jI tn), .int (jI tp), .int (jI tw)])), (ts, .inl (cA, 400, .inl (jA tf)))] s.heap := hP
  have hl := lv_entry ([.ref ta]) (n := 1) (Nat.le_of_ble_eq_true rfl)
  rw [lg_entry_eq]
  generalize (lg_sl ([.ref ta]) ++ List.replicate (1 - (lg_sl ([.ref ta])).length) Slot.unset).toArray = ls at hl ⊢
  have hl : lv_has ls 1 [(0, .ref ta)] := hl
  refine lv_aload_n hx hb dXT_wrongPlace_0 rfl (lv_at hl 0 rfl) ?_
  refine va_get (D := (dC, dI)) (ci := 3) (v := .int (jI tw)) (C := RXT) (T := TXT) (N := 4) hx hb hts (fun w h => jmem (inXT w h)) hown hK hP 0 rfl rfl 3 (by decide) (hts _ (jmem tw_33)) (fun _ h9 => h9) rfl dXT_wrongPlace_1 ?_
  subst hQ
  exact W.iret (v := jI tw) hx hb hr (fun t ht hW => ⟨_, rfl, congrArg jI (Eq.trans (by rw [f_XT_wrongPlace_s]; try rfl) rfl), ht⟩) (fun _ h => nomatch h) dXT_wrongPlace_4
noncomputable def g_XT_refuse (tn : Int) (tp : Int) (tw : Int) (tf : Int → Int) : Int × Int :=
  (0, tp)
noncomputable def f_XT_refuse : Int → Int → Int → (Int → Int) → Int × Int := jopq g_XT_refuse
theorem f_XT_refuse_q : f_XT_refuse = g_XT_refuse := jopq_eq _
theorem f_XT_refuse_s (tn : Int) (tp : Int) (tw : Int) (tf : Int → Int) : f_XT_refuse tn tp tw tf = (
    (0, tp)
  ) := by rw [f_XT_refuse_q]; rfl
theorem f_XT_refuse_b (tn tp tw : Int) (tf : Int → Int) : (f_XT_refuse tn tp tw tf).1 = 0 := by rw [f_XT_refuse_s]
set_option maxHeartbeats 4000000 in
set_option maxRecDepth 100000 in
theorem c_XT_refuse (l : Launch) (dC : Nat → ClassId) (dI : Nat → Nat → Nat) (cA : ClassId) (sz : Nat) (ta : Nat) (ts : Nat) (tn : Int) (tp : Int) (tw : Int) (tf : Int → Int) : Met l yXT_refuse (Cond.code yXT_refuse cXT_refuse 1 (some .boolean) :: TBL) ({ frames := 0, cells := 0, slots := 0, locals := 0 } : Room) (va_Pc [.ref ta] (jBw (dC, dI) [(cA, .int)] [(ta, .inr (3, [.ref ts, .int (jI tn), .int (jI tp), .int (jI tw)])), (ts, .inl (cA, 400, .inl (jA tf)))] sz)) (va_Qi (fun (r : Int32) (u : Int × Int) => r = jI u.1 ∧ u = f_XT_refuse tn tp tw tf) (fun u t => jE (dC, dI) [(cA, .int)] [(ta, .inr (3, [.ref ts, .int (jI tn), .int (jI tp), .int (jI tw)])), (ts, .inl (cA, 400, .inl (jA tf)))] sz [(ta, .inr (3, [.ref ts, .int (jI tn), .int (jI tp), .int (jI u.2)])), (ts, .inl (cA, 400, .inl (jA tf)))] t) (va_A [(ta, .inr (3, [.ref ts, .int (jI tn), .int (jI tp), .int (jI tw)])), (ts, .inl (cA, 400, .inl (jA tf)))] sz)) 0 0 (va_A [(ta, .inr (3, [.ref ts, .int (jI tn), .int (jI tp), .int (jI tw)])), (ts, .inl (cA, 400, .inl (jA tf)))] sz) := by
  refine jMet (cc := cXT_refuse) (maxL := 1) (ret := some .boolean) (by decide) rfl ?_
  intro p e s m args below meth c s₁ R Q hR hQ B hml hv
  obtain ⟨rfl, hsz, hP, hK, hD0, hN⟩ := hv
  have hx := B.exec
  have hb := B.bytes
  have hr := B.returns
  have hts := atoms_spec (ws := Cond.code yXT_refuse cXT_refuse 1 (some .boolean) :: TBL) B.pre
  have hown : s.vm.findClass RXT = some m.cls := findClass_of_methodNamed B.named
  have hlocks := B.notSynchronized
  subst hsz
  obtain ⟨A, hAe⟩ : ∃ A, A = va_A [(ta, .inr (3, [.ref ts, .int (jI tn), .int (jI tp), .int (jI tw)])), (ts, .inl (cA, 400, .inl (jA tf)))] s.heap.size := ⟨_, rfl⟩
  have hD : va_D A [(ta, .inr (3, [.ref ts, .int (jI tn), .int (jI tp), .int (jI tw)])), (ts, .inl (cA, 400, .inl (jA tf)))] := by rw [hAe]; exact hD0.self
  have hA : ∀ q : Nat, s.heap.size ≤ q → A q := fun q h => by rw [hAe]; exact Or.inr h
  have hS : va_S A s.heap s.heap [] := va_S.rf
  have hP : va_P (dC, dI) vwCl [(ta, .inr (3, [.ref ts, .int (jI tn), .int (jI tp), .int (jI tw)])), (ts, .inl (cA, 400, .inl (jA tf)))] s.heap := hP
  have hl := lv_entry ([.ref ta]) (n := 1) (Nat.le_of_ble_eq_true rfl)
  rw [lg_entry_eq]
  generalize (lg_sl ([.ref ta]) ++ List.replicate (1 - (lg_sl ([.ref ta])).length) Slot.unset).toArray = ls at hl ⊢
  have hl : lv_has ls 1 [(0, .ref ta)] := hl
  refine lv_aload_n hx hb dXT_refuse_0 rfl (lv_at hl 0 rfl) ?_
  refine lv_aload_n hx hb dXT_refuse_1 rfl (lv_at hl 0 rfl) ?_
  refine va_get (D := (dC, dI)) (ci := 3) (v := .int (jI tp)) (C := RXT) (T := TXT) (N := 4) hx hb hts (fun w h => jmem (inXT w h)) hown hK hP 0 rfl rfl 2 (by decide) (hts _ (jmem tw_32)) (fun _ h9 => h9) rfl dXT_refuse_2 ?_
  refine va_put (D := (dC, dI)) (ci := 3) (v := .int (jI tp)) (ty := (.int)) (C := RXT) (T := TXT) (N := 4) hx hb hts (fun w h => jmem (inXT w h)) tyXT tyXT_ok nXT hown hK hP hD hS 0 rfl rfl 3 (by decide) (hts _ (jmem tw_33)) (fun _ h9 => h9) rfl (by decide +kernel) rfl rfl (Nat.le_of_ble_eq_true rfl) dXT_refuse_5 (fun H locs hP hD hS => ?_)
  have hP : va_P (dC, dI) vwCl [(ta, .inr (3, [.ref ts, .int (jI tn), .int (jI tp), .int (jI tp)])), (ts, .inl (cA, 400, .inl (jA tf)))] H := hP
  have hD : va_D A [(ta, .inr (3, [.ref ts, .int (jI tn), .int (jI tp), .int (jI tp)])), (ts, .inl (cA, 400, .inl (jA tf)))] := hD
  refine ji_iconst hx hb dXT_refuse_8 ?_
  have hP9 := hP.sub (ws' := [(ta, .inr (3, [.ref ts, .int (jI tn), .int (jI tp), .int (jI tp)])), (ts, .inl (cA, 400, .inl (jA tf)))]) [0, 1] rfl
  have hD9 := hD.sub (ws' := [(ta, .inr (3, [.ref ts, .int (jI tn), .int (jI tp), .int (jI tp)])), (ts, .inl (cA, 400, .inl (jA tf)))]) [0, 1] (by decide) rfl
  subst hAe
  subst hQ
  exact W.zret (v := jI 0) hx hb hr (by first | decide | exact jz (by omega)) (fun t ht hW => ⟨⟨_, (0, tp), rfl, ⟨rfl, Eq.trans (by rw [f_XT_refuse_s]; try rfl) rfl⟩, ⟨by rw [ht]; exact hP9, va_K.moved hW.alike hK, hD9⟩⟩, hS.F ht⟩) hS.2.2 dXT_refuse_9
noncomputable def g_XT_refuseLast (tn : Int) (tp : Int) (tw : Int) (tf : Int → Int) : Int × Int :=
  (0, tp - 1)
noncomputable def f_XT_refuseLast : Int → Int → Int → (Int → Int) → Int × Int := jopq g_XT_refuseLast
theorem f_XT_refuseLast_q : f_XT_refuseLast = g_XT_refuseLast := jopq_eq _
theorem f_XT_refuseLast_s (tn : Int) (tp : Int) (tw : Int) (tf : Int → Int) : f_XT_refuseLast tn tp tw tf = (
    (0, tp - 1)
  ) := by rw [f_XT_refuseLast_q]; rfl
theorem f_XT_refuseLast_b (tn tp tw : Int) (tf : Int → Int) : (f_XT_refuseLast tn tp tw tf).1 = 0 := by rw [f_XT_refuseLast_s]
set_option maxHeartbeats 4000000 in
set_option maxRecDepth 100000 in
theorem c_XT_refuseLast (l : Launch) (dC : Nat → ClassId) (dI : Nat → Nat → Nat) (cA : ClassId) (sz : Nat) (ta : Nat) (ts : Nat) (tn : Int) (tp : Int) (tw : Int) (tf : Int → Int) : Met l yXT_refuseLast (Cond.code yXT_refuseLast cXT_refuseLast 1 (some .boolean) :: TBL) ({ frames := 0, cells := 0, slots := 0, locals := 0 } : Room) (va_Pc [.ref ta] (jBw (dC, dI) [(cA, .int)] [(ta, .inr (3, [.ref ts, .int (jI tn), .int (jI tp), .int (jI tw)])), (ts, .inl (cA, 400, .inl (jA tf)))] sz)) (va_Qi (fun (r : Int32) (u : Int × Int) => r = jI u.1 ∧ u = f_XT_refuseLast tn tp tw tf) (fun u t => jE (dC, dI) [(cA, .int)] [(ta, .inr (3, [.ref ts, .int (jI tn), .int (jI tp), .int (jI tw)])), (ts, .inl (cA, 400, .inl (jA tf)))] sz [(ta, .inr (3, [.ref ts, .int (jI tn), .int (jI tp), .int (jI u.2)])), (ts, .inl (cA, 400, .inl (jA tf)))] t) (va_A [(ta, .inr (3, [.ref ts, .int (jI tn), .int (jI tp), .int (jI tw)])), (ts, .inl (cA, 400, .inl (jA tf)))] sz)) 0 0 (va_A [(ta, .inr (3, [.ref ts, .int (jI tn), .int (jI tp), .int (jI tw)])), (ts, .inl (cA, 400, .inl (jA tf)))] sz) := by
  refine jMet (cc := cXT_refuseLast) (maxL := 1) (ret := some .boolean) (by decide) rfl ?_
  intro p e s m args below meth c s₁ R Q hR hQ B hml hv
  obtain ⟨rfl, hsz, hP, hK, hD0, hN⟩ := hv
  have hx := B.exec
  have hb := B.bytes
  have hr := B.returns
  have hts := atoms_spec (ws := Cond.code yXT_refuseLast cXT_refuseLast 1 (some .boolean) :: TBL) B.pre
  have hown : s.vm.findClass RXT = some m.cls := findClass_of_methodNamed B.named
  have hlocks := B.notSynchronized
  subst hsz
  obtain ⟨A, hAe⟩ : ∃ A, A = va_A [(ta, .inr (3, [.ref ts, .int (jI tn), .int (jI tp), .int (jI tw)])), (ts, .inl (cA, 400, .inl (jA tf)))] s.heap.size := ⟨_, rfl⟩
  have hD : va_D A [(ta, .inr (3, [.ref ts, .int (jI tn), .int (jI tp), .int (jI tw)])), (ts, .inl (cA, 400, .inl (jA tf)))] := by rw [hAe]; exact hD0.self
  have hA : ∀ q : Nat, s.heap.size ≤ q → A q := fun q h => by rw [hAe]; exact Or.inr h
  have hS : va_S A s.heap s.heap [] := va_S.rf
  have hP : va_P (dC, dI) vwCl [(ta, .inr (3, [.ref ts, .int (jI tn), .int (jI tp), .int (jI tw)])), (ts, .inl (cA, 400, .inl (jA tf)))] s.heap := hP
  have hl := lv_entry ([.ref ta]) (n := 1) (Nat.le_of_ble_eq_true rfl)
  rw [lg_entry_eq]
  generalize (lg_sl ([.ref ta]) ++ List.replicate (1 - (lg_sl ([.ref ta])).length) Slot.unset).toArray = ls at hl ⊢
  have hl : lv_has ls 1 [(0, .ref ta)] := hl
  refine lv_aload_n hx hb dXT_refuseLast_0 rfl (lv_at hl 0 rfl) ?_
  refine lv_aload_n hx hb dXT_refuseLast_1 rfl (lv_at hl 0 rfl) ?_
  refine va_get (D := (dC, dI)) (ci := 3) (v := .int (jI tp)) (C := RXT) (T := TXT) (N := 4) hx hb hts (fun w h => jmem (inXT w h)) hown hK hP 0 rfl rfl 2 (by decide) (hts _ (jmem tw_32)) (fun _ h9 => h9) rfl dXT_refuseLast_2 ?_
  refine ji_iconst hx hb dXT_refuseLast_5 ?_
  refine ji_isub hx hb dXT_refuseLast_6 ?_
  refine va_put (D := (dC, dI)) (ci := 3) (v := .int (jI (tp - 1))) (ty := (.int)) (C := RXT) (T := TXT) (N := 4) hx hb hts (fun w h => jmem (inXT w h)) tyXT tyXT_ok nXT hown hK hP hD hS 0 rfl rfl 3 (by decide) (hts _ (jmem tw_33)) (fun _ h9 => h9) rfl (by decide +kernel) rfl rfl (Nat.le_of_ble_eq_true rfl) dXT_refuseLast_7 (fun H locs hP hD hS => ?_)
  have hP : va_P (dC, dI) vwCl [(ta, .inr (3, [.ref ts, .int (jI tn), .int (jI tp), .int (jI (tp - 1))])), (ts, .inl (cA, 400, .inl (jA tf)))] H := hP
  have hD : va_D A [(ta, .inr (3, [.ref ts, .int (jI tn), .int (jI tp), .int (jI (tp - 1))])), (ts, .inl (cA, 400, .inl (jA tf)))] := hD
  refine ji_iconst hx hb dXT_refuseLast_10 ?_
  have hP9 := hP.sub (ws' := [(ta, .inr (3, [.ref ts, .int (jI tn), .int (jI tp), .int (jI (tp - 1))])), (ts, .inl (cA, 400, .inl (jA tf)))]) [0, 1] rfl
  have hD9 := hD.sub (ws' := [(ta, .inr (3, [.ref ts, .int (jI tn), .int (jI tp), .int (jI (tp - 1))])), (ts, .inl (cA, 400, .inl (jA tf)))]) [0, 1] (by decide) rfl
  subst hAe
  subst hQ
  exact W.zret (v := jI 0) hx hb hr (by first | decide | exact jz (by omega)) (fun t ht hW => ⟨⟨_, (0, tp - 1), rfl, ⟨rfl, Eq.trans (by rw [f_XT_refuseLast_s]; try rfl) rfl⟩, ⟨by rw [ht]; exact hP9, va_K.moved hW.alike hK, hD9⟩⟩, hS.F ht⟩) hS.2.2 dXT_refuseLast_11
noncomputable def g_XT_hasRoom (tn : Int) (tp : Int) (tw : Int) (tf : Int → Int) (zn : Int) : Int :=
  if (400 - tn) < zn then
    0
  else
    1
noncomputable def f_XT_hasRoom : Int → Int → Int → (Int → Int) → Int → Int := jopq g_XT_hasRoom
theorem f_XT_hasRoom_q : f_XT_hasRoom = g_XT_hasRoom := jopq_eq _
theorem f_XT_hasRoom_s (tn : Int) (tp : Int) (tw : Int) (tf : Int → Int) (zn : Int) : f_XT_hasRoom tn tp tw tf zn = (
    if (400 - tn) < zn then
      0
    else
      1
  ) := by rw [f_XT_hasRoom_q]; rfl
set_option maxHeartbeats 4000000 in
set_option maxRecDepth 100000 in
theorem c_XT_hasRoom (l : Launch) (dC : Nat → ClassId) (dI : Nat → Nat → Nat) (cA : ClassId) (ta : Nat) (ts : Nat) (tn : Int) (tp : Int) (tw : Int) (tf : Int → Int) (zn : Int) (hn : 0 ≤ tn ∧ tn ≤ 400) (hz : i32 zn) : Met l yXT_hasRoom (Cond.code yXT_hasRoom cXT_hasRoom 2 (some .boolean) :: TBL) ({ frames := 0, cells := 0, slots := 0, locals := 0 } : Room) (va_Pc [.ref ta, .int (jI zn)] (jB (dC, dI) [(cA, .int)] [(ta, .inr (3, [.ref ts, .int (jI tn), .int (jI tp), .int (jI tw)])), (ts, .inl (cA, 400, .inl (jA tf)))])) (vp_Si (fun r => r = jI (f_XT_hasRoom tn tp tw tf zn))) 0 0 (fun _ => False) := by
  refine jMet (cc := cXT_hasRoom) (maxL := 2) (ret := some .boolean) (by decide) rfl ?_
  intro p e s m args below meth c s₁ R Q hR hQ B hml hv
  obtain ⟨rfl, hP, hK, hN⟩ := hv
  have hx := B.exec
  have hb := B.bytes
  have hr := B.returns
  have hts := atoms_spec (ws := Cond.code yXT_hasRoom cXT_hasRoom 2 (some .boolean) :: TBL) B.pre
  have hown : s.vm.findClass RXT = some m.cls := findClass_of_methodNamed B.named
  have hlocks := B.notSynchronized
  have hP : va_P (dC, dI) vwCl [(ta, .inr (3, [.ref ts, .int (jI tn), .int (jI tp), .int (jI tw)])), (ts, .inl (cA, 400, .inl (jA tf)))] s.heap := hP
  have hl := lv_entry ([.ref ta, .int (jI zn)]) (n := 2) (Nat.le_of_ble_eq_true rfl)
  rw [lg_entry_eq]
  generalize (lg_sl ([.ref ta, .int (jI zn)]) ++ List.replicate (2 - (lg_sl ([.ref ta, .int (jI zn)])).length) Slot.unset).toArray = ls at hl ⊢
  have hl : lv_has ls 2 [(0, .ref ta), (1, .int (jI zn))] := hl
  refine lv_iload_n hx hb dXT_hasRoom_0 rfl (lv_at hl 1 rfl) ?_
  refine ji_sipush hx hb dXT_hasRoom_1 (by decide) ?_
  refine lv_aload_n hx hb dXT_hasRoom_4 rfl (lv_at hl 0 rfl) ?_
  refine va_get (D := (dC, dI)) (ci := 3) (v := .int (jI tn)) (C := RXT) (T := TXT) (N := 4) hx hb hts (fun w h => jmem (inXT w h)) hown hK hP 0 rfl rfl 1 (by decide) (hts _ (jmem tw_31)) (fun _ h9 => h9) rfl dXT_hasRoom_5 ?_
  refine ji_isub hx hb dXT_hasRoom_8 ?_
  refine ji_icmp_gt (tgt := 16) hx hb dXT_hasRoom_9 (by decide) (by omega) (by omega) (fun c9_ => ?_) (fun c9_ => ?_)
  · refine ji_iconst hx hb dXT_hasRoom_16 ?_
    subst hQ
    exact W.zret (v := jI 0) hx hb hr (by first | decide | exact jz (by omega)) (fun t ht hW => ⟨_, rfl, congrArg jI (Eq.trans (by rw [f_XT_hasRoom_s]; rw [if_pos c9_]; try rfl) rfl), ht⟩) (fun _ h => nomatch h) dXT_hasRoom_17
  · refine ji_iconst hx hb dXT_hasRoom_12 ?_
    refine lv_goto (tgt := 17) hx hb dXT_hasRoom_13 (by decide) ?_
    subst hQ
    exact W.zret (v := jI 1) hx hb hr (by first | decide | exact jz (by omega)) (fun t ht hW => ⟨_, rfl, congrArg jI (Eq.trans (by rw [f_XT_hasRoom_s]; rw [if_neg (Int.not_lt.mpr c9_)]; try rfl) rfl), ht⟩) (fun _ h => nomatch h) dXT_hasRoom_17
noncomputable def g_XT_here (tn : Int) (tp : Int) (tw : Int) (tf : Int → Int) : Int :=
  if tp < tn then
    tf tp
  else
    -1
noncomputable def f_XT_here : Int → Int → Int → (Int → Int) → Int := jopq g_XT_here
theorem f_XT_here_q : f_XT_here = g_XT_here := jopq_eq _
theorem f_XT_here_s (tn : Int) (tp : Int) (tw : Int) (tf : Int → Int) : f_XT_here tn tp tw tf = (
    if tp < tn then
      tf tp
    else
      -1
  ) := by rw [f_XT_here_q]; rfl
theorem f_XT_here_b (tn tp tw : Int) (tf : Int → Int) (hn : 0 ≤ tn ∧ tn ≤ 400) (hp : 0 ≤ tp ∧ tp ≤ tn) (hf : ∀ i, 0 ≤ tf i ∧ tf i < 256) : -1 ≤ f_XT_here tn tp tw tf ∧ f_XT_here tn tp tw tf < 256 ∧ (0 ≤ f_XT_here tn tp tw tf → tp < tn) := by have := hf tp; rw [f_XT_here_s]; split <;> omega
set_option maxHeartbeats 4000000 in
set_option maxRecDepth 100000 in
theorem c_XT_here (l : Launch) (dC : Nat → ClassId) (dI : Nat → Nat → Nat) (cA : ClassId) (ta : Nat) (ts : Nat) (tn : Int) (tp : Int) (tw : Int) (tf : Int → Int) (hn : 0 ≤ tn ∧ tn ≤ 400) (hp : 0 ≤ tp ∧ tp ≤ tn) (hf : ∀ i, 0 ≤ tf i ∧ tf i < 256) : Met l yXT_here (Cond.code yXT_here cXT_here 1 (some .int) :: TBL) ({ frames := 0, cells := 0, slots := 0, locals := 0 } : Room) (va_Pc [.ref ta] (jB (dC, dI) [(cA, .int)] [(ta, .inr (3, [.ref ts, .int (jI tn), .int (jI tp), .int (jI tw)])), (ts, .inl (cA, 400, .inl (jA tf)))])) (vp_Si (fun r => r = jI (f_XT_here tn tp tw tf))) 0 0 (fun _ => False) := by
  refine jMet (cc := cXT_here) (maxL := 1) (ret := some .int) (by decide) rfl ?_
  intro p e s m args below meth c s₁ R Q hR hQ B hml hv
  obtain ⟨rfl, hP, hK, hN⟩ := hv
  have hx := B.exec
  have hb := B.bytes
  have hr := B.returns
  have hts := atoms_spec (ws := Cond.code yXT_here cXT_here 1 (some .int) :: TBL) B.pre
  have hown : s.vm.findClass RXT = some m.cls := findClass_of_methodNamed B.named
  have hlocks := B.notSynchronized
  have hP : va_P (dC, dI) vwCl [(ta, .inr (3, [.ref ts, .int (jI tn), .int (jI tp), .int (jI tw)])), (ts, .inl (cA, 400, .inl (jA tf)))] s.heap := hP
  have hl := lv_entry ([.ref ta]) (n := 1) (Nat.le_of_ble_eq_true rfl)
  rw [lg_entry_eq]
  generalize (lg_sl ([.ref ta]) ++ List.replicate (1 - (lg_sl ([.ref ta])).length) Slot.unset).toArray = ls at hl ⊢
  have hl : lv_has ls 1 [(0, .ref ta)] := hl
  refine lv_aload_n hx hb dXT_here_0 rfl (lv_at hl 0 rfl) ?_
  refine va_get (D := (dC, dI)) (ci := 3) (v := .int (jI tp)) (C := RXT) (T := TXT) (N := 4) hx hb hts (fun w h => jmem (inXT w h)) hown hK hP 0 rfl rfl 2 (by decide) (hts _ (jmem tw_32)) (fun _ h9 => h9) rfl dXT_here_1 ?_
  refine lv_aload_n hx hb dXT_here_4 rfl (lv_at hl 0 rfl) ?_
  refine va_get (D := (dC, dI)) (ci := 3) (v := .int (jI tn)) (C := RXT) (T := TXT) (N := 4) hx hb hts (fun w h => jmem (inXT w h)) hown hK hP 0 rfl rfl 1 (by decide) (hts _ (jmem tw_31)) (fun _ h9 => h9) rfl dXT_here_5 ?_
  refine ji_icmp_ge (tgt := 23) hx hb dXT_here_8 (by decide) (by omega) (by omega) (fun c8_ => ?_) (fun c8_ => ?_)
  · refine ji_iconst hx hb dXT_here_23 ?_
    subst hQ
    exact W.iret (v := jI (-1)) hx hb hr (fun t ht hW => ⟨_, rfl, congrArg jI (Eq.trans (by rw [f_XT_here_s]; rw [if_neg (Int.not_lt.mpr c8_)]; try rfl) rfl), ht⟩) (fun _ h => nomatch h) dXT_here_24
  · refine lv_aload_n hx hb dXT_here_11 rfl (lv_at hl 0 rfl) ?_
    refine va_get (D := (dC, dI)) (ci := 3) (v := .ref ts) (C := RXT) (T := TXT) (N := 4) hx hb hts (fun w h => jmem (inXT w h)) hown hK hP 0 rfl rfl 0 (by decide) (hts _ (jmem tw_30)) (fun _ h9 => h9) rfl dXT_here_12 ?_
    refine lv_aload_n hx hb dXT_here_15 rfl (lv_at hl 0 rfl) ?_
    refine va_get (D := (dC, dI)) (ci := 3) (v := .int (jI tp)) (C := RXT) (T := TXT) (N := 4) hx hb hts (fun w h => jmem (inXT w h)) hown hK hP 0 rfl rfl 2 (by decide) (hts _ (jmem tw_32)) (fun _ h9 => h9) rfl dXT_here_16 ?_
    refine ji_iald hx hb hK hP 1 0 rfl rfl ⟨by omega, by omega⟩ (by decide) dXT_here_19 ?_
    have rb := hf tp
    refine lv_goto (tgt := 24) hx hb dXT_here_20 (by decide) ?_
    subst hQ
    exact W.iret (v := jI (tf tp)) hx hb hr (fun t ht hW => ⟨_, rfl, congrArg jI (Eq.trans (by rw [f_XT_here_s]; rw [if_pos c8_]; try rfl) rfl), ht⟩) (fun _ h => nomatch h) dXT_here_24
noncomputable def g_XT_next_L0 (tn : Int) (tp : Int) (tw : Int) (tf : Int → Int) : Nat → Int → Int × Int
  | 0, _ => (0, 0)
  | n9 + 1, q =>
    if q < tn then
      if (tf q) = 32 then
        g_XT_next_L0 tn tp tw tf n9 (q + 1)
      else
        if q < tn then
          (tf q, q)
        else
          (-1, q)
    else
      if q < tn then
        (tf q, q)
      else
        (-1, q)
noncomputable def f_XT_next_L0 : Int → Int → Int → (Int → Int) → Nat → Int → Int × Int := jopq g_XT_next_L0
theorem f_XT_next_L0_q : f_XT_next_L0 = g_XT_next_L0 := jopq_eq _
theorem f_XT_next_L0_s (tn : Int) (tp : Int) (tw : Int) (tf : Int → Int) (n9 : Nat) (q : Int) : f_XT_next_L0 tn tp tw tf (n9 + 1) q = (
    if q < tn then
      if (tf q) = 32 then
        f_XT_next_L0 tn tp tw tf n9 (q + 1)
      else
        if q < tn then
          (tf q, q)
        else
          (-1, q)
    else
      if q < tn then
        (tf q, q)
      else
        (-1, q)
  ) := by rw [f_XT_next_L0_q]; rfl
theorem f_XT_next_L0_z (tn : Int) (tp : Int) (tw : Int) (tf : Int → Int) (q : Int) : f_XT_next_L0 tn tp tw tf 0 q = (0, 0) := by rw [f_XT_next_L0_q]; rfl
noncomputable def g_XT_next (tn : Int) (tp : Int) (tw : Int) (tf : Int → Int) : Int × Int :=
  f_XT_next_L0 tn tp tw tf (Int.toNat (tn - tp) + 1) tp
noncomputable def f_XT_next : Int → Int → Int → (Int → Int) → Int × Int := jopq g_XT_next
theorem f_XT_next_q : f_XT_next = g_XT_next := jopq_eq _
theorem f_XT_next_s (tn : Int) (tp : Int) (tw : Int) (tf : Int → Int) : f_XT_next tn tp tw tf = (
    f_XT_next_L0 tn tp tw tf (Int.toNat (tn - tp) + 1) tp
  ) := by rw [f_XT_next_q]; rfl
theorem f_XT_next_L_b (tn tp tw : Int) (tf : Int → Int) (hf : ∀ i, 0 ≤ tf i ∧ tf i < 256) : ∀ (n : Nat) (q : Int), tn - q < (n : Int) → 0 ≤ q → q ≤ tn → (q ≤ (f_XT_next_L0 tn tp tw tf n q).2 ∧ (f_XT_next_L0 tn tp tw tf n q).2 ≤ tn ∧ -1 ≤ (f_XT_next_L0 tn tp tw tf n q).1 ∧ (f_XT_next_L0 tn tp tw tf n q).1 < 256 ∧ (0 ≤ (f_XT_next_L0 tn tp tw tf n q).1 → (f_XT_next_L0 tn tp tw tf n q).2 < tn)) := by
  intro n
  induction n with
  | zero => intro q h; omega
  | succ n ih =>
    intro q h h1 h2
    have hq := hf q
    rw [f_XT_next_L0_s]
    split
    · split
      · have := ih (q + 1) (by omega) (by omega) (by omega)
        omega
      · (try split) <;> dsimp only <;> omega
    · (try split) <;> dsimp only <;> omega
theorem f_XT_next_b (tn tp tw : Int) (tf : Int → Int) (hn : 0 ≤ tn ∧ tn ≤ 400) (hp : 0 ≤ tp ∧ tp ≤ tn) (hf : ∀ i, 0 ≤ tf i ∧ tf i < 256) : tp ≤ (f_XT_next tn tp tw tf).2 ∧ (f_XT_next tn tp tw tf).2 ≤ tn ∧ -1 ≤ (f_XT_next tn tp tw tf).1 ∧ (f_XT_next tn tp tw tf).1 < 256 ∧ (0 ≤ (f_XT_next tn tp tw tf).1 → (f_XT_next tn tp tw tf).2 < tn) := by rw [f_XT_next_s]; exact f_XT_next_L_b tn tp tw tf hf _ _ (by omega) (by omega) (by omega)
set_option maxHeartbeats 4000000 in
set_option maxRecDepth 100000 in
theorem c_XT_next (l : Launch) (dC : Nat → ClassId) (dI : Nat → Nat → Nat) (cA : ClassId) (sz : Nat) (ta : Nat) (ts : Nat) (tn : Int) (tp : Int) (tw : Int) (tf : Int → Int) (hn : 0 ≤ tn ∧ tn ≤ 400) (hp : 0 ≤ tp ∧ tp ≤ tn) (hf : ∀ i, 0 ≤ tf i ∧ tf i < 256) : Met l yXT_next (Cond.code yXT_next cXT_next 1 (some .int) :: TBL) ({ frames := 0, cells := 0, slots := 0, locals := 0 } : Room) (va_Pc [.ref ta] (jBw (dC, dI) [(cA, .int)] [(ta, .inr (3, [.ref ts, .int (jI tn), .int (jI tp), .int (jI tw)])), (ts, .inl (cA, 400, .inl (jA tf)))] sz)) (va_Qi (fun (r : Int32) (u : Int × Int) => r = jI u.1 ∧ u = f_XT_next tn tp tw tf) (fun u t => jE (dC, dI) [(cA, .int)] [(ta, .inr (3, [.ref ts, .int (jI tn), .int (jI tp), .int (jI tw)])), (ts, .inl (cA, 400, .inl (jA tf)))] sz [(ta, .inr (3, [.ref ts, .int (jI tn), .int (jI u.2), .int (jI tw)])), (ts, .inl (cA, 400, .inl (jA tf)))] t) (va_A [(ta, .inr (3, [.ref ts, .int (jI tn), .int (jI tp), .int (jI tw)])), (ts, .inl (cA, 400, .inl (jA tf)))] sz)) 0 0 (va_A [(ta, .inr (3, [.ref ts, .int (jI tn), .int (jI tp), .int (jI tw)])), (ts, .inl (cA, 400, .inl (jA tf)))] sz) := by
  refine jMet (cc := cXT_next) (maxL := 1) (ret := some .int) (by decide) rfl ?_
  intro p e s m args below meth c s₁ R Q hR hQ B hml hv
  obtain ⟨rfl, hsz, hP, hK, hD0, hN⟩ := hv
  have hx := B.exec
  have hb := B.bytes
  have hr := B.returns
  have hts := atoms_spec (ws := Cond.code yXT_next cXT_next 1 (some .int) :: TBL) B.pre
  have hown : s.vm.findClass RXT = some m.cls := findClass_of_methodNamed B.named
  have hlocks := B.notSynchronized
  subst hsz
  obtain ⟨A, hAe⟩ : ∃ A, A = va_A [(ta, .inr (3, [.ref ts, .int (jI tn), .int (jI tp), .int (jI tw)])), (ts, .inl (cA, 400, .inl (jA tf)))] s.heap.size := ⟨_, rfl⟩
  have hD : va_D A [(ta, .inr (3, [.ref ts, .int (jI tn), .int (jI tp), .int (jI tw)])), (ts, .inl (cA, 400, .inl (jA tf)))] := by rw [hAe]; exact hD0.self
  have hA : ∀ q : Nat, s.heap.size ≤ q → A q := fun q h => by rw [hAe]; exact Or.inr h
  have hS : va_S A s.heap s.heap [] := va_S.rf
  have hP : va_P (dC, dI) vwCl [(ta, .inr (3, [.ref ts, .int (jI tn), .int (jI tp), .int (jI tw)])), (ts, .inl (cA, 400, .inl (jA tf)))] s.heap := hP
  have hl := lv_entry ([.ref ta]) (n := 1) (Nat.le_of_ble_eq_true rfl)
  rw [lg_entry_eq]
  generalize (lg_sl ([.ref ta]) ++ List.replicate (1 - (lg_sl ([.ref ta])).length) Slot.unset).toArray = ls at hl ⊢
  have hl : lv_has ls 1 [(0, .ref ta)] := hl
  have loop0 : ∀ (n9 : Nat) (q : Int) , tn - q < (n9 : Int) → f_XT_next_L0 tn tp tw tf n9 q = f_XT_next tn tp tw tf → tp ≤ q ∧ q ≤ tn → ∀ (H : Heap) (locs : List Loc), va_P (dC, dI) vwCl [(ta, .inr (3, [.ref ts, .int (jI tn), .int (jI q), .int (jI tw)])), (ts, .inl (cA, 400, .inl (jA tf)))] H → va_D A [(ta, .inr (3, [.ref ts, .int (jI tn), .int (jI q), .int (jI tw)])), (ts, .inl (cA, 400, .inl (jA tf)))] → va_S A s.heap H locs → ∀ ls : Array Slot, lv_has ls 1 [(0, .ref ta)] → W p l e R s m ([.ref ta] : List Value).toArray below meth c H locs 0 0 Q (F0 m 0 ls []) := by
    intro n9
    induction n9 with
    | zero =>
      intro q hm hF hq
      exact absurd hm (by omega)
    | succ n9 ih0 =>
      intro q hm hF hq H locs hP hD hS ls hl
      refine lv_aload_n hx hb dXT_next_0 rfl (lv_at hl 0 rfl) ?_
      refine va_get (D := (dC, dI)) (ci := 3) (v := .int (jI q)) (C := RXT) (T := TXT) (N := 4) hx hb hts (fun w h => jmem (inXT w h)) hown hK hP 0 rfl rfl 2 (by decide) (hts _ (jmem tw_32)) (fun _ h9 => h9) rfl dXT_next_1 ?_
      refine lv_aload_n hx hb dXT_next_4 rfl (lv_at hl 0 rfl) ?_
      refine va_get (D := (dC, dI)) (ci := 3) (v := .int (jI tn)) (C := RXT) (T := TXT) (N := 4) hx hb hts (fun w h => jmem (inXT w h)) hown hK hP 0 rfl rfl 1 (by decide) (hts _ (jmem tw_31)) (fun _ h9 => h9) rfl dXT_next_5 ?_
      refine ji_icmp_ge (tgt := 38) hx hb dXT_next_8 (by decide) (by omega) (by omega) (fun c8_ => ?_) (fun c8_ => ?_)
      · refine lv_aload_n hx hb dXT_next_38 rfl (lv_at hl 0 rfl) ?_
        refine va_get (D := (dC, dI)) (ci := 3) (v := .int (jI q)) (C := RXT) (T := TXT) (N := 4) hx hb hts (fun w h => jmem (inXT w h)) hown hK hP 0 rfl rfl 2 (by decide) (hts _ (jmem tw_32)) (fun _ h9 => h9) rfl dXT_next_39 ?_
        refine lv_aload_n hx hb dXT_next_42 rfl (lv_at hl 0 rfl) ?_
        refine va_get (D := (dC, dI)) (ci := 3) (v := .int (jI tn)) (C := RXT) (T := TXT) (N := 4) hx hb hts (fun w h => jmem (inXT w h)) hown hK hP 0 rfl rfl 1 (by decide) (hts _ (jmem tw_31)) (fun _ h9 => h9) rfl dXT_next_43 ?_
        refine ji_icmp_ge (tgt := 61) hx hb dXT_next_46 (by decide) (by omega) (by omega) (fun c46_ => ?_) (fun c46_ => ?_)
        · refine ji_iconst hx hb dXT_next_61 ?_
          have hP9 := hP.sub (ws' := [(ta, .inr (3, [.ref ts, .int (jI tn), .int (jI q), .int (jI tw)])), (ts, .inl (cA, 400, .inl (jA tf)))]) [0, 1] rfl
          have hD9 := hD.sub (ws' := [(ta, .inr (3, [.ref ts, .int (jI tn), .int (jI q), .int (jI tw)])), (ts, .inl (cA, 400, .inl (jA tf)))]) [0, 1] (by decide) rfl
          subst hAe
          subst hQ
          exact W.iret (v := jI (-1)) hx hb hr (fun t ht hW => ⟨⟨_, (-1, q), rfl, ⟨rfl, Eq.trans (by rw [f_XT_next_L0_s]; rw [if_neg (Int.not_lt.mpr c8_), if_neg (Int.not_lt.mpr c46_)]; try rfl) hF⟩, ⟨by rw [ht]; exact hP9, va_K.moved hW.alike hK, hD9⟩⟩, hS.F ht⟩) hS.2.2 dXT_next_62
        · refine lv_aload_n hx hb dXT_next_49 rfl (lv_at hl 0 rfl) ?_
          refine va_get (D := (dC, dI)) (ci := 3) (v := .ref ts) (C := RXT) (T := TXT) (N := 4) hx hb hts (fun w h => jmem (inXT w h)) hown hK hP 0 rfl rfl 0 (by decide) (hts _ (jmem tw_30)) (fun _ h9 => h9) rfl dXT_next_50 ?_
          refine lv_aload_n hx hb dXT_next_53 rfl (lv_at hl 0 rfl) ?_
          refine va_get (D := (dC, dI)) (ci := 3) (v := .int (jI q)) (C := RXT) (T := TXT) (N := 4) hx hb hts (fun w h => jmem (inXT w h)) hown hK hP 0 rfl rfl 2 (by decide) (hts _ (jmem tw_32)) (fun _ h9 => h9) rfl dXT_next_54 ?_
          refine ji_iald hx hb hK hP 1 0 rfl rfl ⟨by omega, by omega⟩ (by decide) dXT_next_57 ?_
          have rb := hf q
          refine lv_goto (tgt := 62) hx hb dXT_next_58 (by decide) ?_
          have hP9 := hP.sub (ws' := [(ta, .inr (3, [.ref ts, .int (jI tn), .int (jI q), .int (jI tw)])), (ts, .inl (cA, 400, .inl (jA tf)))]) [0, 1] rfl
          have hD9 := hD.sub (ws' := [(ta, .inr (3, [.ref ts, .int (jI tn), .int (jI q), .int (jI tw)])), (ts, .inl (cA, 400, .inl (jA tf)))]) [0, 1] (by decide) rfl
          subst hAe
          subst hQ
          exact W.iret (v := jI (tf q)) hx hb hr (fun t ht hW => ⟨⟨_, (tf q, q), rfl, ⟨rfl, Eq.trans (by rw [f_XT_next_L0_s]; rw [if_neg (Int.not_lt.mpr c8_), if_pos c46_]; try rfl) hF⟩, ⟨by rw [ht]; exact hP9, va_K.moved hW.alike hK, hD9⟩⟩, hS.F ht⟩) hS.2.2 dXT_next_62
      · refine lv_aload_n hx hb dXT_next_11 rfl (lv_at hl 0 rfl) ?_
        refine va_get (D := (dC, dI)) (ci := 3) (v := .ref ts) (C := RXT) (T := TXT) (N := 4) hx hb hts (fun w h => jmem (inXT w h)) hown hK hP 0 rfl rfl 0 (by decide) (hts _ (jmem tw_30)) (fun _ h9 => h9) rfl dXT_next_12 ?_
        refine lv_aload_n hx hb dXT_next_15 rfl (lv_at hl 0 rfl) ?_
        refine va_get (D := (dC, dI)) (ci := 3) (v := .int (jI q)) (C := RXT) (T := TXT) (N := 4) hx hb hts (fun w h => jmem (inXT w h)) hown hK hP 0 rfl rfl 2 (by decide) (hts _ (jmem tw_32)) (fun _ h9 => h9) rfl dXT_next_16 ?_
        refine ji_iald hx hb hK hP 1 0 rfl rfl ⟨by omega, by omega⟩ (by decide) dXT_next_19 ?_
        have rb1 := hf q
        refine ji_bipush hx hb dXT_next_20 (by decide) ?_
        refine ji_icmp_ne (tgt := 38) hx hb dXT_next_22 (by decide) (by omega) (by omega) (fun c22_ => ?_) (fun c22_ => ?_)
        · refine lv_aload_n hx hb dXT_next_38 rfl (lv_at hl 0 rfl) ?_
          refine va_get (D := (dC, dI)) (ci := 3) (v := .int (jI q)) (C := RXT) (T := TXT) (N := 4) hx hb hts (fun w h => jmem (inXT w h)) hown hK hP 0 rfl rfl 2 (by decide) (hts _ (jmem tw_32)) (fun _ h9 => h9) rfl dXT_next_39 ?_
          refine lv_aload_n hx hb dXT_next_42 rfl (lv_at hl 0 rfl) ?_
          refine va_get (D := (dC, dI)) (ci := 3) (v := .int (jI tn)) (C := RXT) (T := TXT) (N := 4) hx hb hts (fun w h => jmem (inXT w h)) hown hK hP 0 rfl rfl 1 (by decide) (hts _ (jmem tw_31)) (fun _ h9 => h9) rfl dXT_next_43 ?_
          refine ji_icmp_ge (tgt := 61) hx hb dXT_next_46 (by decide) (by omega) (by omega) (fun c46_2 => ?_) (fun c46_2 => ?_)
          · refine ji_iconst hx hb dXT_next_61 ?_
            have hP9 := hP.sub (ws' := [(ta, .inr (3, [.ref ts, .int (jI tn), .int (jI q), .int (jI tw)])), (ts, .inl (cA, 400, .inl (jA tf)))]) [0, 1] rfl
            have hD9 := hD.sub (ws' := [(ta, .inr (3, [.ref ts, .int (jI tn), .int (jI q), .int (jI tw)])), (ts, .inl (cA, 400, .inl (jA tf)))]) [0, 1] (by decide) rfl
            subst hAe
            subst hQ
            exact W.iret (v := jI (-1)) hx hb hr (fun t ht hW => ⟨⟨_, (-1, q), rfl, ⟨rfl, Eq.trans (by rw [f_XT_next_L0_s]; rw [if_pos c8_, if_neg c22_, if_neg (Int.not_lt.mpr c46_2)]; try rfl) hF⟩, ⟨by rw [ht]; exact hP9, va_K.moved hW.alike hK, hD9⟩⟩, hS.F ht⟩) hS.2.2 dXT_next_62
          · refine lv_aload_n hx hb dXT_next_49 rfl (lv_at hl 0 rfl) ?_
            refine va_get (D := (dC, dI)) (ci := 3) (v := .ref ts) (C := RXT) (T := TXT) (N := 4) hx hb hts (fun w h => jmem (inXT w h)) hown hK hP 0 rfl rfl 0 (by decide) (hts _ (jmem tw_30)) (fun _ h9 => h9) rfl dXT_next_50 ?_
            refine lv_aload_n hx hb dXT_next_53 rfl (lv_at hl 0 rfl) ?_
            refine va_get (D := (dC, dI)) (ci := 3) (v := .int (jI q)) (C := RXT) (T := TXT) (N := 4) hx hb hts (fun w h => jmem (inXT w h)) hown hK hP 0 rfl rfl 2 (by decide) (hts _ (jmem tw_32)) (fun _ h9 => h9) rfl dXT_next_54 ?_
            refine ji_iald hx hb hK hP 1 0 rfl rfl ⟨by omega, by omega⟩ (by decide) dXT_next_57 ?_
            have rb3 := hf q
            refine lv_goto (tgt := 62) hx hb dXT_next_58 (by decide) ?_
            have hP9 := hP.sub (ws' := [(ta, .inr (3, [.ref ts, .int (jI tn), .int (jI q), .int (jI tw)])), (ts, .inl (cA, 400, .inl (jA tf)))]) [0, 1] rfl
            have hD9 := hD.sub (ws' := [(ta, .inr (3, [.ref ts, .int (jI tn), .int (jI q), .int (jI tw)])), (ts, .inl (cA, 400, .inl (jA tf)))]) [0, 1] (by decide) rfl
            subst hAe
            subst hQ
            exact W.iret (v := jI (tf q)) hx hb hr (fun t ht hW => ⟨⟨_, (tf q, q), rfl, ⟨rfl, Eq.trans (by rw [f_XT_next_L0_s]; rw [if_pos c8_, if_neg c22_, if_pos c46_2]; try rfl) hF⟩, ⟨by rw [ht]; exact hP9, va_K.moved hW.alike hK, hD9⟩⟩, hS.F ht⟩) hS.2.2 dXT_next_62
        · refine lv_aload_n hx hb dXT_next_25 rfl (lv_at hl 0 rfl) ?_
          refine lv_dup hx hb dXT_next_26 rfl ?_
          refine va_get (D := (dC, dI)) (ci := 3) (v := .int (jI q)) (C := RXT) (T := TXT) (N := 4) hx hb hts (fun w h => jmem (inXT w h)) hown hK hP 0 rfl rfl 2 (by decide) (hts _ (jmem tw_32)) (fun _ h9 => h9) rfl dXT_next_27 ?_
          refine ji_iconst hx hb dXT_next_30 ?_
          refine ji_iadd hx hb dXT_next_31 ?_
          refine va_put (D := (dC, dI)) (ci := 3) (v := .int (jI (q + 1))) (ty := (.int)) (C := RXT) (T := TXT) (N := 4) hx hb hts (fun w h => jmem (inXT w h)) tyXT tyXT_ok nXT hown hK hP hD hS 0 rfl rfl 2 (by decide) (hts _ (jmem tw_32)) (fun _ h9 => h9) rfl (by decide +kernel) rfl rfl (Nat.le_of_ble_eq_true rfl) dXT_next_32 (fun H locs hP hD hS => ?_)
          have hP : va_P (dC, dI) vwCl [(ta, .inr (3, [.ref ts, .int (jI tn), .int (jI (q + 1)), .int (jI tw)])), (ts, .inl (cA, 400, .inl (jA tf)))] H := hP
          have hD : va_D A [(ta, .inr (3, [.ref ts, .int (jI tn), .int (jI (q + 1)), .int (jI tw)])), (ts, .inl (cA, 400, .inl (jA tf)))] := hD
          refine lv_goto (tgt := 0) hx hb dXT_next_35 (by decide) ?_
          exact ih0 (q + 1) (by omega) (Eq.trans (by rw [f_XT_next_L0_s]; rw [if_pos c8_, if_pos c22_]; try rfl) hF) (by first | assumption | omega) _ _ hP hD hS ls (lv_sub hl [0] rfl)
  exact loop0 (Int.toNat (tn - tp) + 1) tp (by omega) (Eq.trans (by rw [f_XT_next_s]; try rfl) rfl) (by first | assumption | omega) _ _ hP hD hS ls (lv_sub hl [0] rfl)
end
section
noncomputable def g_XT_skipIf (tn : Int) (tp : Int) (tw : Int) (tf : Int → Int) (zs : Int) : Int × Int :=
  match f_XT_next tn tp tw tf with
  | (r, tp1') =>
    if r = zs then
      (1, tp1' + 1)
    else
      (0, tp1')
noncomputable def f_XT_skipIf : Int → Int → Int → (Int → Int) → Int → Int × Int := jopq g_XT_skipIf
theorem f_XT_skipIf_q : f_XT_skipIf = g_XT_skipIf := jopq_eq _
theorem f_XT_skipIf_s (tn : Int) (tp : Int) (tw : Int) (tf : Int → Int) (zs : Int) : f_XT_skipIf tn tp tw tf zs = (
    match f_XT_next tn tp tw tf with
    | (r, tp1') =>
      if r = zs then
        (1, tp1' + 1)
      else
        (0, tp1')
  ) := by rw [f_XT_skipIf_q]; rfl
theorem f_XT_skipIf_b (tn tp tw : Int) (tf : Int → Int) (zs : Int) (hn : 0 ≤ tn ∧ tn ≤ 400) (hp : 0 ≤ tp ∧ tp ≤ tn) (hf : ∀ i, 0 ≤ tf i ∧ tf i < 256) (hz : i32 zs) (hz0 : 0 ≤ zs) : (0 ≤ (f_XT_skipIf tn tp tw tf zs).1 ∧ (f_XT_skipIf tn tp tw tf zs).1 ≤ 1) ∧ 0 ≤ (f_XT_skipIf tn tp tw tf zs).2 ∧ (f_XT_skipIf tn tp tw tf zs).2 ≤ tn := by
  have h := f_XT_next_b tn tp tw tf hn hp hf
  rw [f_XT_skipIf_s]
  repeat' split
  all_goals (rename_i e _; rw [e] at h; dsimp only at h ⊢; omega)
set_option maxHeartbeats 4000000 in
set_option maxRecDepth 100000 in
theorem c_XT_skipIf (l : Launch) (dC : Nat → ClassId) (dI : Nat → Nat → Nat) (cA : ClassId) (sz : Nat) (ta : Nat) (ts : Nat) (tn : Int) (tp : Int) (tw : Int) (tf : Int → Int) (zs : Int) (hn : 0 ≤ tn ∧ tn ≤ 400) (hp : 0 ≤ tp ∧ tp ≤ tn) (hf : ∀ i, 0 ≤ tf i ∧ tf i < 256) (hz : i32 zs) (hz0 : 0 ≤ zs) : Met l yXT_skipIf (Cond.code yXT_skipIf cXT_skipIf 2 (some .boolean) :: TBL) ({ frames := 1, cells := 0, slots := 0, locals := 20 } : Room) (va_Pc [.ref ta, .int (jI zs)] (jBw (dC, dI) [(cA, .int)] [(ta, .inr (3, [.ref ts, .int (jI tn), .int (jI tp), .int (jI tw)])), (ts, .inl (cA, 400, .inl (jA tf)))] sz)) (va_Qi (fun (r : Int32) (u : Int × Int) => r = jI u.1 ∧ u = f_XT_skipIf tn tp tw tf zs) (fun u t => jE (dC, dI) [(cA, .int)] [(ta, .inr (3, [.ref ts, .int (jI tn), .int (jI tp), .int (jI tw)])), (ts, .inl (cA, 400, .inl (jA tf)))] sz [(ta, .inr (3, [.ref ts, .int (jI tn), .int (jI u.2), .int (jI tw)])), (ts, .inl (cA, 400, .inl (jA tf)))] t) (va_A [(ta, .inr (3, [.ref ts, .int (jI tn), .int (jI tp), .int (jI tw)])), (ts, .inl (cA, 400, .inl (jA tf)))] sz)) 0 0 (va_A [(ta, .inr (3, [.ref ts, .int (jI tn), .int (jI tp), .int (jI tw)])), (ts, .inl (cA, 400, .inl (jA tf)))] sz) := by
  refine jMet (cc := cXT_skipIf) (maxL := 2) (ret := some .boolean) (by decide) rfl ?_
  intro p e s m args below meth c s₁ R Q hR hQ B hml hv
  obtain ⟨rfl, hsz, hP, hK, hD0, hN⟩ := hv
  have hx := B.exec
  have hb := B.bytes
  have hr := B.returns
  have hts := atoms_spec (ws := Cond.code yXT_skipIf cXT_skipIf 2 (some .boolean) :: TBL) B.pre
  have hown : s.vm.findClass RXT = some m.cls := findClass_of_methodNamed B.named
  have hlocks := B.notSynchronized
  subst hsz
  obtain ⟨A, hAe⟩ : ∃ A, A = va_A [(ta, .inr (3, [.ref ts, .int (jI tn), .int (jI tp), .int (jI tw)])), (ts, .inl (cA, 400, .inl (jA tf)))] s.heap.size := ⟨_, rfl⟩
  have hD : va_D A [(ta, .inr (3, [.ref ts, .int (jI tn), .int (jI tp), .int (jI tw)])), (ts, .inl (cA, 400, .inl (jA tf)))] := by rw [hAe]; exact hD0.self
  have hA : ∀ q : Nat, s.heap.size ≤ q → A q := fun q h => by rw [hAe]; exact Or.inr h
  have hS : va_S A s.heap s.heap [] := va_S.rf
  have hP : va_P (dC, dI) vwCl [(ta, .inr (3, [.ref ts, .int (jI tn), .int (jI tp), .int (jI tw)])), (ts, .inl (cA, 400, .inl (jA tf)))] s.heap := hP
  have hl := lv_entry ([.ref ta, .int (jI zs)]) (n := 2) (Nat.le_of_ble_eq_true rfl)
  rw [lg_entry_eq]
  generalize (lg_sl ([.ref ta, .int (jI zs)]) ++ List.replicate (2 - (lg_sl ([.ref ta, .int (jI zs)])).length) Slot.unset).toArray = ls at hl ⊢
  have hl : lv_has ls 2 [(0, .ref ta), (1, .int (jI zs))] := hl
  refine lv_aload_n hx hb dXT_skipIf_0 rfl (lv_at hl 0 rfl) ?_
  refine jwVi (rest := []) (wr := []) ⟨hx, hb, hml, hown, hts⟩ (c_XT_next l dC dI cA _ ta ts tn tp tw tf (by first | assumption | omega) (by first | assumption | omega) (by first | assumption | omega)) (cwV 0 hts (jG_V tw_154 tw_143 tw_144 tw_2 tw_145) rfl rfl rfl (by decide +kernel) (by rw [hR]; exact ⟨Nat.le_of_ble_eq_true rfl, Nat.le_of_ble_eq_true rfl⟩)) hK hP hD hS hA hN [0, 1] [] rfl rfl (by decide) (by decide) (by decide) 0 3 rfl rfl rfl rfl hl.1 rfl (Nat.le_of_ble_eq_true rfl) dXT_skipIf_1 (by rw [hR]; exact ⟨Nat.le_of_ble_eq_true rfl, Nat.le_of_ble_eq_true rfl⟩) (fun v u H locs hwb hP hD hS => ?_)
  obtain ⟨r, tp1'⟩ := u
  try dsimp only at hwb
  obtain ⟨er, hwb⟩ := hwb
  subst er
  have hP : va_P (dC, dI) vwCl [(ta, .inr (3, [.ref ts, .int (jI tn), .int (jI tp1'), .int (jI tw)])), (ts, .inl (cA, 400, .inl (jA tf)))] H := hP
  have hD : va_D A [(ta, .inr (3, [.ref ts, .int (jI tn), .int (jI tp1'), .int (jI tw)])), (ts, .inl (cA, 400, .inl (jA tf)))] := hD
  have f := f_XT_next_b tn tp tw tf (by first | assumption | omega) (by first | assumption | omega) (by first | assumption | omega)
  rw [← hwb] at f; try dsimp only at f
  refine lv_iload_n hx hb dXT_skipIf_4 rfl (lv_at hl 1 rfl) ?_
  refine ji_icmp_eq (tgt := 10) hx hb dXT_skipIf_5 (by decide) (by omega) (by omega) (fun c5_ => ?_) (fun c5_ => ?_)
  · refine lv_aload_n hx hb dXT_skipIf_10 rfl (lv_at hl 0 rfl) ?_
    refine lv_dup hx hb dXT_skipIf_11 rfl ?_
    refine va_get (D := (dC, dI)) (ci := 3) (v := .int (jI tp1')) (C := RXT) (T := TXT) (N := 4) hx hb hts (fun w h => jmem (inXT w h)) hown hK hP 0 rfl rfl 2 (by decide) (hts _ (jmem tw_32)) (fun _ h9 => h9) rfl dXT_skipIf_12 ?_
    refine ji_iconst hx hb dXT_skipIf_15 ?_
    refine ji_iadd hx hb dXT_skipIf_16 ?_
    refine va_put (D := (dC, dI)) (ci := 3) (v := .int (jI (tp1' + 1))) (ty := (.int)) (C := RXT) (T := TXT) (N := 4) hx hb hts (fun w h => jmem (inXT w h)) tyXT tyXT_ok nXT hown hK hP hD hS 0 rfl rfl 2 (by decide) (hts _ (jmem tw_32)) (fun _ h9 => h9) rfl (by decide +kernel) rfl rfl (Nat.le_of_ble_eq_true rfl) dXT_skipIf_17 (fun H locs hP hD hS => ?_)
    have hP : va_P (dC, dI) vwCl [(ta, .inr (3, [.ref ts, .int (jI tn), .int (jI (tp1' + 1)), .int (jI tw)])), (ts, .inl (cA, 400, .inl (jA tf)))] H := hP
    have hD : va_D A [(ta, .inr (3, [.ref ts, .int (jI tn), .int (jI (tp1' + 1)), .int (jI tw)])), (ts, .inl (cA, 400, .inl (jA tf)))] := hD
    refine ji_iconst hx hb dXT_skipIf_20 ?_
    have hP9 := hP.sub (ws' := [(ta, .inr (3, [.ref ts, .int (jI tn), .int (jI (tp1' + 1)), .int (jI tw)])), (ts, .inl (cA, 400, .inl (jA tf)))]) [0, 1] rfl
    have hD9 := hD.sub (ws' := [(ta, .inr (3, [.ref ts, .int (jI tn), .int (jI (tp1' + 1)), .int (jI tw)])), (ts, .inl (cA, 400, .inl (jA tf)))]) [0, 1] (by decide) rfl
    subst hAe
    subst hQ
    exact W.zret (v := jI 1) hx hb hr (by first | decide | exact jz (by omega)) (fun t ht hW => ⟨⟨_, (1, tp1' + 1), rfl, ⟨rfl, Eq.trans (by rw [f_XT_skipIf_s]; rw [← hwb]; try dsimp only; rw [if_pos c5_]; try rfl) rfl⟩, ⟨by rw [ht]; exact hP9, va_K.moved hW.alike hK, hD9⟩⟩, hS.F ht⟩) hS.2.2 dXT_skipIf_21
  · refine ji_iconst hx hb dXT_skipIf_8 ?_
    have hP9 := hP.sub (ws' := [(ta, .inr (3, [.ref ts, .int (jI tn), .int (jI tp1'), .int (jI tw)])), (ts, .inl (cA, 400, .inl (jA tf)))]) [0, 1] rfl
    have hD9 := hD.sub (ws' := [(ta, .inr (3, [.ref ts, .int (jI tn), .int (jI tp1'), .int (jI tw)])), (ts, .inl (cA, 400, .inl (jA tf)))]) [0, 1] (by decide) rfl
    subst hAe
    subst hQ
    exact W.zret (v := jI 0) hx hb hr (by first | decide | exact jz (by omega)) (fun t ht hW => ⟨⟨_, (0, tp1'), rfl, ⟨rfl, Eq.trans (by rw [f_XT_skipIf_s]; rw [← hwb]; try dsimp only; rw [if_neg c5_]; try rfl) rfl⟩, ⟨by rw [ht]; exact hP9, va_K.moved hW.alike hK, hD9⟩⟩, hS.F ht⟩) hS.2.2 dXT_skipIf_9
noncomputable def g_XT_take (tn : Int) (tp : Int) (tw : Int) (tf : Int → Int) (zs : Int) : Int × Int × Int :=
  match f_XT_next tn tp tw tf with
  | (r, tp1') =>
    if r = zs then
      (1, tp1' + 1, tw)
    else
      match f_XT_refuse tn tp1' tw tf with
      | (r1, tw1') =>
        (r1, tp1', tw1')
noncomputable def f_XT_take : Int → Int → Int → (Int → Int) → Int → Int × Int × Int := jopq g_XT_take
theorem f_XT_take_q : f_XT_take = g_XT_take := jopq_eq _
theorem f_XT_take_s (tn : Int) (tp : Int) (tw : Int) (tf : Int → Int) (zs : Int) : f_XT_take tn tp tw tf zs = (
    match f_XT_next tn tp tw tf with
    | (r, tp1') =>
      if r = zs then
        (1, tp1' + 1, tw)
      else
        match f_XT_refuse tn tp1' tw tf with
        | (r1, tw1') =>
          (r1, tp1', tw1')
  ) := by rw [f_XT_take_q]; rfl
theorem f_XT_take_b (tn tp tw : Int) (tf : Int → Int) (zs : Int) (hn : 0 ≤ tn ∧ tn ≤ 400) (hp : 0 ≤ tp ∧ tp ≤ tn) (hf : ∀ i, 0 ≤ tf i ∧ tf i < 256) (hz : i32 zs) (hz0 : 0 ≤ zs) : (0 ≤ (f_XT_take tn tp tw tf zs).1 ∧ (f_XT_take tn tp tw tf zs).1 ≤ 1) ∧ 0 ≤ (f_XT_take tn tp tw tf zs).2.1 ∧ (f_XT_take tn tp tw tf zs).2.1 ≤ tn := by
  have h := f_XT_next_b tn tp tw tf hn hp hf
  simp only [f_XT_take_s, f_XT_refuse_s]
  (repeat' split) <;> (try dsimp only) <;> omega
set_option maxHeartbeats 4000000 in
set_option maxRecDepth 100000 in
theorem c_XT_take (l : Launch) (dC : Nat → ClassId) (dI : Nat → Nat → Nat) (cA : ClassId) (sz : Nat) (ta : Nat) (ts : Nat) (tn : Int) (tp : Int) (tw : Int) (tf : Int → Int) (zs : Int) (hn : 0 ≤ tn ∧ tn ≤ 400) (hp : 0 ≤ tp ∧ tp ≤ tn) (hf : ∀ i, 0 ≤ tf i ∧ tf i < 256) (hz : i32 zs) (hz0 : 0 ≤ zs) : Met l yXT_take (Cond.code yXT_take cXT_take 2 (some .boolean) :: TBL) ({ frames := 1, cells := 0, slots := 0, locals := 20 } : Room) (va_Pc [.ref ta, .int (jI zs)] (jBw (dC, dI) [(cA, .int)] [(ta, .inr (3, [.ref ts, .int (jI tn), .int (jI tp), .int (jI tw)])), (ts, .inl (cA, 400, .inl (jA tf)))] sz)) (va_Qi (fun (r : Int32) (u : Int × Int × Int) => r = jI u.1 ∧ u = f_XT_take tn tp tw tf zs) (fun u t => jE (dC, dI) [(cA, .int)] [(ta, .inr (3, [.ref ts, .int (jI tn), .int (jI tp), .int (jI tw)])), (ts, .inl (cA, 400, .inl (jA tf)))] sz [(ta, .inr (3, [.ref ts, .int (jI tn), .int (jI u.2.1), .int (jI u.2.2)])), (ts, .inl (cA, 400, .inl (jA tf)))] t) (va_A [(ta, .inr (3, [.ref ts, .int (jI tn), .int (jI tp), .int (jI tw)])), (ts, .inl (cA, 400, .inl (jA tf)))] sz)) 0 0 (va_A [(ta, .inr (3, [.ref ts, .int (jI tn), .int (jI tp), .int (jI tw)])), (ts, .inl (cA, 400, .inl (jA tf)))] sz) := by
  refine jMet (cc := cXT_take) (maxL := 2) (ret := some .boolean) (by decide) rfl ?_
  intro p e s m args below meth c s₁ R Q hR hQ B hml hv
  obtain ⟨rfl, hsz, hP, hK, hD0, hN⟩ := hv
  have hx := B.exec
  have hb := B.bytes
  have hr := B.returns
  have hts := atoms_spec (ws := Cond.code yXT_take cXT_take 2 (some .boolean) :: TBL) B.pre
  have hown : s.vm.findClass RXT = some m.cls := findClass_of_methodNamed B.named
  have hlocks := B.notSynchronized
  subst hsz
  obtain ⟨A, hAe⟩ : ∃ A, A = va_A [(ta, .inr (3, [.ref ts, .int (jI tn), .int (jI tp), .int (jI tw)])), (ts, .inl (cA, 400, .inl (jA tf)))] s.heap.size := ⟨_, rfl⟩
  have hD : va_D A [(ta, .inr (3, [.ref ts, .int (jI tn), .int (jI tp), .int (jI tw)])), (ts, .inl (cA, 400, .inl (jA tf)))] := by rw [hAe]; exact hD0.self
  have hA : ∀ q : Nat, s.heap.size ≤ q → A q := fun q h => by rw [hAe]; exact Or.inr h
  have hS : va_S A s.heap s.heap [] := va_S.rf
  have hP : va_P (dC, dI) vwCl [(ta, .inr (3, [.ref ts, .int (jI tn), .int (jI tp), .int (jI tw)])), (ts, .inl (cA, 400, .inl (jA tf)))] s.heap := hP
  have hl := lv_entry ([.ref ta, .int (jI zs)]) (n := 2) (Nat.le_of_ble_eq_true rfl)
  rw [lg_entry_eq]
  generalize (lg_sl ([.ref ta, .int (jI zs)]) ++ List.replicate (2 - (lg_sl ([.ref ta, .int (jI zs)])).length) Slot.unset).toArray = ls at hl ⊢
  have hl : lv_has ls 2 [(0, .ref ta), (1, .int (jI zs))] := hl
  refine lv_aload_n hx hb dXT_take_0 rfl (lv_at hl 0 rfl) ?_
  refine jwVi (rest := []) (wr := []) ⟨hx, hb, hml, hown, hts⟩ (c_XT_next l dC dI cA _ ta ts tn tp tw tf (by first | assumption | omega) (by first | assumption | omega) (by first | assumption | omega)) (cwV 0 hts (jG_V tw_154 tw_143 tw_144 tw_2 tw_145) rfl rfl rfl (by decide +kernel) (by rw [hR]; exact ⟨Nat.le_of_ble_eq_true rfl, Nat.le_of_ble_eq_true rfl⟩)) hK hP hD hS hA hN [0, 1] [] rfl rfl (by decide) (by decide) (by decide) 0 3 rfl rfl rfl rfl hl.1 rfl (Nat.le_of_ble_eq_true rfl) dXT_take_1 (by rw [hR]; exact ⟨Nat.le_of_ble_eq_true rfl, Nat.le_of_ble_eq_true rfl⟩) (fun v u H locs hwb hP hD hS => ?_)
  obtain ⟨r, tp1'⟩ := u
  try dsimp only at hwb
  obtain ⟨er, hwb⟩ := hwb
  subst er
  have hP : va_P (dC, dI) vwCl [(ta, .inr (3, [.ref ts, .int (jI tn), .int (jI tp1'), .int (jI tw)])), (ts, .inl (cA, 400, .inl (jA tf)))] H := hP
  have hD : va_D A [(ta, .inr (3, [.ref ts, .int (jI tn), .int (jI tp1'), .int (jI tw)])), (ts, .inl (cA, 400, .inl (jA tf)))] := hD
  have f := f_XT_next_b tn tp tw tf (by first | assumption | omega) (by first | assumption | omega) (by first | assumption | omega)
  rw [← hwb] at f; try dsimp only at f
  refine lv_iload_n hx hb dXT_take_4 rfl (lv_at hl 1 rfl) ?_
  refine ji_icmp_eq (tgt := 13) hx hb dXT_take_5 (by decide) (by omega) (by omega) (fun c5_ => ?_) (fun c5_ => ?_)
  · refine lv_aload_n hx hb dXT_take_13 rfl (lv_at hl 0 rfl) ?_
    refine lv_dup hx hb dXT_take_14 rfl ?_
    refine va_get (D := (dC, dI)) (ci := 3) (v := .int (jI tp1')) (C := RXT) (T := TXT) (N := 4) hx hb hts (fun w h => jmem (inXT w h)) hown hK hP 0 rfl rfl 2 (by decide) (hts _ (jmem tw_32)) (fun _ h9 => h9) rfl dXT_take_15 ?_
    refine ji_iconst hx hb dXT_take_18 ?_
    refine ji_iadd hx hb dXT_take_19 ?_
    refine va_put (D := (dC, dI)) (ci := 3) (v := .int (jI (tp1' + 1))) (ty := (.int)) (C := RXT) (T := TXT) (N := 4) hx hb hts (fun w h => jmem (inXT w h)) tyXT tyXT_ok nXT hown hK hP hD hS 0 rfl rfl 2 (by decide) (hts _ (jmem tw_32)) (fun _ h9 => h9) rfl (by decide +kernel) rfl rfl (Nat.le_of_ble_eq_true rfl) dXT_take_20 (fun H locs hP hD hS => ?_)
    have hP : va_P (dC, dI) vwCl [(ta, .inr (3, [.ref ts, .int (jI tn), .int (jI (tp1' + 1)), .int (jI tw)])), (ts, .inl (cA, 400, .inl (jA tf)))] H := hP
    have hD : va_D A [(ta, .inr (3, [.ref ts, .int (jI tn), .int (jI (tp1' + 1)), .int (jI tw)])), (ts, .inl (cA, 400, .inl (jA tf)))] := hD
    refine ji_iconst hx hb dXT_take_23 ?_
    have hP9 := hP.sub (ws' := [(ta, .inr (3, [.ref ts, .int (jI tn), .int (jI (tp1' + 1)), .int (jI tw)])), (ts, .inl (cA, 400, .inl (jA tf)))]) [0, 1] rfl
    have hD9 := hD.sub (ws' := [(ta, .inr (3, [.ref ts, .int (jI tn), .int (jI (tp1' + 1)), .int (jI tw)])), (ts, .inl (cA, 400, .inl (jA tf)))]) [0, 1] (by decide) rfl
    subst hAe
    subst hQ
    exact W.zret (v := jI 1) hx hb hr (by first | decide | exact jz (by omega)) (fun t ht hW => ⟨⟨_, (1, tp1' + 1, tw), rfl, ⟨rfl, Eq.trans (by rw [f_XT_take_s]; rw [← hwb]; try dsimp only; rw [if_pos c5_]; try rfl) rfl⟩, ⟨by rw [ht]; exact hP9, va_K.moved hW.alike hK, hD9⟩⟩, hS.F ht⟩) hS.2.2 dXT_take_24
  · refine lv_aload_n hx hb dXT_take_8 rfl (lv_at hl 0 rfl) ?_
    refine jwVi (rest := []) (wr := []) ⟨hx, hb, hml, hown, hts⟩ (c_XT_refuse l dC dI cA _ ta ts tn tp1' tw tf) (cwV 0 hts (jG_V tw_163 tw_164 tw_165 tw_2 tw_166) rfl rfl rfl (by decide +kernel) (by rw [hR]; exact ⟨Nat.le_of_ble_eq_true rfl, Nat.le_of_ble_eq_true rfl⟩)) hK hP hD hS hA hN [0, 1] [] rfl rfl (by decide) (by decide) (by decide) 0 3 rfl rfl rfl rfl hl.1 rfl (Nat.le_of_ble_eq_true rfl) dXT_take_9 (by rw [hR]; exact ⟨Nat.le_of_ble_eq_true rfl, Nat.le_of_ble_eq_true rfl⟩) (fun v3 u2 H locs hwb4 hP hD hS => ?_)
    obtain ⟨r1, tw1'⟩ := u2
    try dsimp only at hwb4
    obtain ⟨er, hwb4⟩ := hwb4
    subst er
    have hP : va_P (dC, dI) vwCl [(ta, .inr (3, [.ref ts, .int (jI tn), .int (jI tp1'), .int (jI tw1')])), (ts, .inl (cA, 400, .inl (jA tf)))] H := hP
    have hD : va_D A [(ta, .inr (3, [.ref ts, .int (jI tn), .int (jI tp1'), .int (jI tw1')])), (ts, .inl (cA, 400, .inl (jA tf)))] := hD
    have f5 := f_XT_refuse_b tn tp1' tw tf
    rw [← hwb4] at f5; try dsimp only at f5
    have hP9 := hP.sub (ws' := [(ta, .inr (3, [.ref ts, .int (jI tn), .int (jI tp1'), .int (jI tw1')])), (ts, .inl (cA, 400, .inl (jA tf)))]) [0, 1] rfl
    have hD9 := hD.sub (ws' := [(ta, .inr (3, [.ref ts, .int (jI tn), .int (jI tp1'), .int (jI tw1')])), (ts, .inl (cA, 400, .inl (jA tf)))]) [0, 1] (by decide) rfl
    subst hAe
    subst hQ
    exact W.zret (v := jI r1) hx hb hr (by first | decide | exact jz (by omega)) (fun t ht hW => ⟨⟨_, (r1, tp1', tw1'), rfl, ⟨rfl, Eq.trans (by rw [f_XT_take_s]; rw [← hwb]; try dsimp only; rw [if_neg c5_]; rw [← hwb4]; try dsimp only; try rfl) rfl⟩, ⟨by rw [ht]; exact hP9, va_K.moved hW.alike hK, hD9⟩⟩, hS.F ht⟩) hS.2.2 dXT_take_12
noncomputable def g_XT_takeOneOf (tn : Int) (tp : Int) (tw : Int) (tf : Int → Int) (zs : Int) (zc : Int) : Int × Int × Int :=
  match f_XT_next tn tp tw tf with
  | (r, tp1') =>
    if (r - zs) < 0 then
      match f_XT_refuse tn tp1' tw tf with
      | (r1, tw1') =>
        (-1, tp1', tw1')
    else
      if (r - zs) < zc then
        (r - zs, tp1' + 1, tw)
      else
        match f_XT_refuse tn tp1' tw tf with
        | (r6, tw1'7) =>
          (-1, tp1', tw1'7)
noncomputable def f_XT_takeOneOf : Int → Int → Int → (Int → Int) → Int → Int → Int × Int × Int := jopq g_XT_takeOneOf
theorem f_XT_takeOneOf_q : f_XT_takeOneOf = g_XT_takeOneOf := jopq_eq _
theorem f_XT_takeOneOf_s (tn : Int) (tp : Int) (tw : Int) (tf : Int → Int) (zs : Int) (zc : Int) : f_XT_takeOneOf tn tp tw tf zs zc = (
    match f_XT_next tn tp tw tf with
    | (r, tp1') =>
      if (r - zs) < 0 then
        match f_XT_refuse tn tp1' tw tf with
        | (r1, tw1') =>
          (-1, tp1', tw1')
      else
        if (r - zs) < zc then
          (r - zs, tp1' + 1, tw)
        else
          match f_XT_refuse tn tp1' tw tf with
          | (r6, tw1'7) =>
            (-1, tp1', tw1'7)
  ) := by rw [f_XT_takeOneOf_q]; rfl
theorem f_XT_takeOneOf_b (tn tp tw : Int) (tf : Int → Int) (zs zc : Int) (hn : 0 ≤ tn ∧ tn ≤ 400) (hp : 0 ≤ tp ∧ tp ≤ tn) (hf : ∀ i, 0 ≤ tf i ∧ tf i < 256) (hz : 0 ≤ zs ∧ zs < 256) (hc : 0 ≤ zc ∧ zc < 256) : (-1 ≤ (f_XT_takeOneOf tn tp tw tf zs zc).1 ∧ ((f_XT_takeOneOf tn tp tw tf zs zc).1 < zc ∨ (f_XT_takeOneOf tn tp tw tf zs zc).1 = -1)) ∧ 0 ≤ (f_XT_takeOneOf tn tp tw tf zs zc).2.1 ∧ (f_XT_takeOneOf tn tp tw tf zs zc).2.1 ≤ tn := by
  have h := f_XT_next_b tn tp tw tf hn hp hf
  simp only [f_XT_takeOneOf_s, f_XT_refuse_s]
  (repeat' split) <;> (try dsimp only) <;> omega
set_option maxHeartbeats 4000000 in
set_option maxRecDepth 100000 in
theorem c_XT_takeOneOf (l : Launch) (dC : Nat → ClassId) (dI : Nat → Nat → Nat) (cA : ClassId) (sz : Nat) (ta : Nat) (ts : Nat) (tn : Int) (tp : Int) (tw : Int) (tf : Int → Int) (zs : Int) (zc : Int) (hn : 0 ≤ tn ∧ tn ≤ 400) (hp : 0 ≤ tp ∧ tp ≤ tn) (hf : ∀ i, 0 ≤ tf i ∧ tf i < 256) (hz : 0 ≤ zs ∧ zs < 256) (hc : 0 ≤ zc ∧ zc < 256) : Met l yXT_takeOneOf (Cond.code yXT_takeOneOf cXT_takeOneOf 4 (some .int) :: TBL) ({ frames := 1, cells := 0, slots := 0, locals := 20 } : Room) (va_Pc [.ref ta, .int (jI zs), .int (jI zc)] (jBw (dC, dI) [(cA, .int)] [(ta, .inr (3, [.ref ts, .int (jI tn), .int (jI tp), .int (jI tw)])), (ts, .inl (cA, 400, .inl (jA tf)))] sz)) (va_Qi (fun (r : Int32) (u : Int × Int × Int) => r = jI u.1 ∧ u = f_XT_takeOneOf tn tp tw tf zs zc) (fun u t => jE (dC, dI) [(cA, .int)] [(ta, .inr (3, [.ref ts, .int (jI tn), .int (jI tp), .int (jI tw)])), (ts, .inl (cA, 400, .inl (jA tf)))] sz [(ta, .inr (3, [.ref ts, .int (jI tn), .int (jI u.2.1), .int (jI u.2.2)])), (ts, .inl (cA, 400, .inl (jA tf)))] t) (va_A [(ta, .inr (3, [.ref ts, .int (jI tn), .int (jI tp), .int (jI tw)])), (ts, .inl (cA, 400, .inl (jA tf)))] sz)) 0 0 (va_A [(ta, .inr (3, [.ref ts, .int (jI tn), .int (jI tp), .int (jI tw)])), (ts, .inl (cA, 400, .inl (jA tf)))] sz) := by
  refine jMet (cc := cXT_takeOneOf) (maxL := 4) (ret := some .int) (by decide) rfl ?_
  intro p e s m args below meth c s₁ R Q hR hQ B hml hv
  obtain ⟨rfl, hsz, hP, hK, hD0, hN⟩ := hv
  have hx := B.exec
  have hb := B.bytes
  have hr := B.returns
  have hts := atoms_spec (ws := Cond.code yXT_takeOneOf cXT_takeOneOf 4 (some .int) :: TBL) B.pre
  have hown : s.vm.findClass RXT = some m.cls := findClass_of_methodNamed B.named
  have hlocks := B.notSynchronized
  subst hsz
  obtain ⟨A, hAe⟩ : ∃ A, A = va_A [(ta, .inr (3, [.ref ts, .int (jI tn), .int (jI tp), .int (jI tw)])), (ts, .inl (cA, 400, .inl (jA tf)))] s.heap.size := ⟨_, rfl⟩
  have hD : va_D A [(ta, .inr (3, [.ref ts, .int (jI tn), .int (jI tp), .int (jI tw)])), (ts, .inl (cA, 400, .inl (jA tf)))] := by rw [hAe]; exact hD0.self
  have hA : ∀ q : Nat, s.heap.size ≤ q → A q := fun q h => by rw [hAe]; exact Or.inr h
  have hS : va_S A s.heap s.heap [] := va_S.rf
  have hP : va_P (dC, dI) vwCl [(ta, .inr (3, [.ref ts, .int (jI tn), .int (jI tp), .int (jI tw)])), (ts, .inl (cA, 400, .inl (jA tf)))] s.heap := hP
  have hl := lv_entry ([.ref ta, .int (jI zs), .int (jI zc)]) (n := 4) (Nat.le_of_ble_eq_true rfl)
  rw [lg_entry_eq]
  generalize (lg_sl ([.ref ta, .int (jI zs), .int (jI zc)]) ++ List.replicate (4 - (lg_sl ([.ref ta, .int (jI zs), .int (jI zc)])).length) Slot.unset).toArray = ls at hl ⊢
  have hl : lv_has ls 4 [(0, .ref ta), (1, .int (jI zs)), (2, .int (jI zc))] := hl
  refine lv_aload_n hx hb dXT_takeOneOf_0 rfl (lv_at hl 0 rfl) ?_
  refine jwVi (rest := []) (wr := []) ⟨hx, hb, hml, hown, hts⟩ (c_XT_next l dC dI cA _ ta ts tn tp tw tf (by first | assumption | omega) (by first | assumption | omega) (by first | assumption | omega)) (cwV 0 hts (jG_V tw_154 tw_143 tw_144 tw_2 tw_145) rfl rfl rfl (by decide +kernel) (by rw [hR]; exact ⟨Nat.le_of_ble_eq_true rfl, Nat.le_of_ble_eq_true rfl⟩)) hK hP hD hS hA hN [0, 1] [] rfl rfl (by decide) (by decide) (by decide) 0 3 rfl rfl rfl rfl hl.1 rfl (Nat.le_of_ble_eq_true rfl) dXT_takeOneOf_1 (by rw [hR]; exact ⟨Nat.le_of_ble_eq_true rfl, Nat.le_of_ble_eq_true rfl⟩) (fun v u H locs hwb hP hD hS => ?_)
  obtain ⟨r, tp1'⟩ := u
  try dsimp only at hwb
  obtain ⟨er, hwb⟩ := hwb
  subst er
  have hP : va_P (dC, dI) vwCl [(ta, .inr (3, [.ref ts, .int (jI tn), .int (jI tp1'), .int (jI tw)])), (ts, .inl (cA, 400, .inl (jA tf)))] H := hP
  have hD : va_D A [(ta, .inr (3, [.ref ts, .int (jI tn), .int (jI tp1'), .int (jI tw)])), (ts, .inl (cA, 400, .inl (jA tf)))] := hD
  have f := f_XT_next_b tn tp tw tf (by first | assumption | omega) (by first | assumption | omega) (by first | assumption | omega)
  rw [← hwb] at f; try dsimp only at f
  refine lv_iload_n hx hb dXT_takeOneOf_4 rfl (lv_at hl 1 rfl) ?_
  refine ji_isub hx hb dXT_takeOneOf_5 ?_
  refine lv_istore_n (lv' := [(3, .int (jI (r - zs))), (0, .ref ta), (1, .int (jI zs)), (2, .int (jI zc))]) hx hb dXT_takeOneOf_6 rfl hl (by decide) rfl (fun ls hl => ?_)
  refine lv_iload_n hx hb dXT_takeOneOf_7 rfl (lv_at hl 0 rfl) ?_
  refine ji_if_lt (tgt := 16) hx hb dXT_takeOneOf_8 (by decide) (by omega) (fun c8_ => ?_) (fun c8_ => ?_)
  · refine lv_aload_n hx hb dXT_takeOneOf_16 rfl (lv_at hl 1 rfl) ?_
    refine jwVi (rest := []) (wr := []) ⟨hx, hb, hml, hown, hts⟩ (c_XT_refuse l dC dI cA _ ta ts tn tp1' tw tf) (cwV 0 hts (jG_V tw_163 tw_164 tw_165 tw_2 tw_166) rfl rfl rfl (by decide +kernel) (by rw [hR]; exact ⟨Nat.le_of_ble_eq_true rfl, Nat.le_of_ble_eq_true rfl⟩)) hK hP hD hS hA hN [0, 1] [] rfl rfl (by decide) (by decide) (by decide) 0 3 rfl rfl rfl rfl hl.1 rfl (Nat.le_of_ble_eq_true rfl) dXT_takeOneOf_17 (by rw [hR]; exact ⟨Nat.le_of_ble_eq_true rfl, Nat.le_of_ble_eq_true rfl⟩) (fun v3 u2 H locs hwb4 hP hD hS => ?_)
    obtain ⟨r1, tw1'⟩ := u2
    try dsimp only at hwb4
    obtain ⟨er, hwb4⟩ := hwb4
    subst er
    have hP : va_P (dC, dI) vwCl [(ta, .inr (3, [.ref ts, .int (jI tn), .int (jI tp1'), .int (jI tw1')])), (ts, .inl (cA, 400, .inl (jA tf)))] H := hP
    have hD : va_D A [(ta, .inr (3, [.ref ts, .int (jI tn), .int (jI tp1'), .int (jI tw1')])), (ts, .inl (cA, 400, .inl (jA tf)))] := hD
    have f5 := f_XT_refuse_b tn tp1' tw tf
    rw [← hwb4] at f5; try dsimp only at f5
    refine lv_pop hx hb dXT_takeOneOf_20 rfl ?_
    refine ji_iconst hx hb dXT_takeOneOf_21 ?_
    have hP9 := hP.sub (ws' := [(ta, .inr (3, [.ref ts, .int (jI tn), .int (jI tp1'), .int (jI tw1')])), (ts, .inl (cA, 400, .inl (jA tf)))]) [0, 1] rfl
    have hD9 := hD.sub (ws' := [(ta, .inr (3, [.ref ts, .int (jI tn), .int (jI tp1'), .int (jI tw1')])), (ts, .inl (cA, 400, .inl (jA tf)))]) [0, 1] (by decide) rfl
    subst hAe
    subst hQ
    exact W.iret (v := jI (-1)) hx hb hr (fun t ht hW => ⟨⟨_, (-1, tp1', tw1'), rfl, ⟨rfl, Eq.trans (by rw [f_XT_takeOneOf_s]; rw [← hwb]; try dsimp only; rw [if_pos c8_]; rw [← hwb4]; try dsimp only; try rfl) rfl⟩, ⟨by rw [ht]; exact hP9, va_K.moved hW.alike hK, hD9⟩⟩, hS.F ht⟩) hS.2.2 dXT_takeOneOf_22
  · refine lv_iload_n hx hb dXT_takeOneOf_11 rfl (lv_at hl 0 rfl) ?_
    refine lv_iload_n hx hb dXT_takeOneOf_12 rfl (lv_at hl 3 rfl) ?_
    refine ji_icmp_lt (tgt := 23) hx hb dXT_takeOneOf_13 (by decide) (by omega) (by omega) (fun c13_ => ?_) (fun c13_ => ?_)
    · refine lv_aload_n hx hb dXT_takeOneOf_23 rfl (lv_at hl 1 rfl) ?_
      refine lv_dup hx hb dXT_takeOneOf_24 rfl ?_
      refine va_get (D := (dC, dI)) (ci := 3) (v := .int (jI tp1')) (C := RXT) (T := TXT) (N := 4) hx hb hts (fun w h => jmem (inXT w h)) hown hK hP 0 rfl rfl 2 (by decide) (hts _ (jmem tw_32)) (fun _ h9 => h9) rfl dXT_takeOneOf_25 ?_
      refine ji_iconst hx hb dXT_takeOneOf_28 ?_
      refine ji_iadd hx hb dXT_takeOneOf_29 ?_
      refine va_put (D := (dC, dI)) (ci := 3) (v := .int (jI (tp1' + 1))) (ty := (.int)) (C := RXT) (T := TXT) (N := 4) hx hb hts (fun w h => jmem (inXT w h)) tyXT tyXT_ok nXT hown hK hP hD hS 0 rfl rfl 2 (by decide) (hts _ (jmem tw_32)) (fun _ h9 => h9) rfl (by decide +kernel) rfl rfl (Nat.le_of_ble_eq_true rfl) dXT_takeOneOf_30 (fun H locs hP hD hS => ?_)
      have hP : va_P (dC, dI) vwCl [(ta, .inr (3, [.ref ts, .int (jI tn), .int (jI (tp1' + 1)), .int (jI tw)])), (ts, .inl (cA, 400, .inl (jA tf)))] H := hP
      have hD : va_D A [(ta, .inr (3, [.ref ts, .int (jI tn), .int (jI (tp1' + 1)), .int (jI tw)])), (ts, .inl (cA, 400, .inl (jA tf)))] := hD
      refine lv_iload_n hx hb dXT_takeOneOf_33 rfl (lv_at hl 0 rfl) ?_
      have hP9 := hP.sub (ws' := [(ta, .inr (3, [.ref ts, .int (jI tn), .int (jI (tp1' + 1)), .int (jI tw)])), (ts, .inl (cA, 400, .inl (jA tf)))]) [0, 1] rfl
      have hD9 := hD.sub (ws' := [(ta, .inr (3, [.ref ts, .int (jI tn), .int (jI (tp1' + 1)), .int (jI tw)])), (ts, .inl (cA, 400, .inl (jA tf)))]) [0, 1] (by decide) rfl
      subst hAe
      subst hQ
      exact W.iret (v := jI (r - zs)) hx hb hr (fun t ht hW => ⟨⟨_, (r - zs, tp1' + 1, tw), rfl, ⟨rfl, Eq.trans (by rw [f_XT_takeOneOf_s]; rw [← hwb]; try dsimp only; rw [if_neg (Int.not_lt.mpr c8_), if_pos c13_]; try rfl) rfl⟩, ⟨by rw [ht]; exact hP9, va_K.moved hW.alike hK, hD9⟩⟩, hS.F ht⟩) hS.2.2 dXT_takeOneOf_34
    · refine lv_aload_n hx hb dXT_takeOneOf_16 rfl (lv_at hl 1 rfl) ?_
      refine jwVi (rest := []) (wr := []) ⟨hx, hb, hml, hown, hts⟩ (c_XT_refuse l dC dI cA _ ta ts tn tp1' tw tf) (cwV 0 hts (jG_V tw_163 tw_164 tw_165 tw_2 tw_166) rfl rfl rfl (by decide +kernel) (by rw [hR]; exact ⟨Nat.le_of_ble_eq_true rfl, Nat.le_of_ble_eq_true rfl⟩)) hK hP hD hS hA hN [0, 1] [] rfl rfl (by decide) (by decide) (by decide) 0 3 rfl rfl rfl rfl hl.1 rfl (Nat.le_of_ble_eq_true rfl) dXT_takeOneOf_17 (by rw [hR]; exact ⟨Nat.le_of_ble_eq_true rfl, Nat.le_of_ble_eq_true rfl⟩) (fun v9 u8 H locs hwb10 hP hD hS => ?_)
      obtain ⟨r6, tw1'7⟩ := u8
      try dsimp only at hwb10
      obtain ⟨er, hwb10⟩ := hwb10
      subst er
      have hP : va_P (dC, dI) vwCl [(ta, .inr (3, [.ref ts, .int (jI tn), .int (jI tp1'), .int (jI tw1'7)])), (ts, .inl (cA, 400, .inl (jA tf)))] H := hP
      have hD : va_D A [(ta, .inr (3, [.ref ts, .int (jI tn), .int (jI tp1'), .int (jI tw1'7)])), (ts, .inl (cA, 400, .inl (jA tf)))] := hD
      have f11 := f_XT_refuse_b tn tp1' tw tf
      rw [← hwb10] at f11; try dsimp only at f11
      refine lv_pop hx hb dXT_takeOneOf_20 rfl ?_
      refine ji_iconst hx hb dXT_takeOneOf_21 ?_
      have hP9 := hP.sub (ws' := [(ta, .inr (3, [.ref ts, .int (jI tn), .int (jI tp1'), .int (jI tw1'7)])), (ts, .inl (cA, 400, .inl (jA tf)))]) [0, 1] rfl
      have hD9 := hD.sub (ws' := [(ta, .inr (3, [.ref ts, .int (jI tn), .int (jI tp1'), .int (jI tw1'7)])), (ts, .inl (cA, 400, .inl (jA tf)))]) [0, 1] (by decide) rfl
      subst hAe
      subst hQ
      exact W.iret (v := jI (-1)) hx hb hr (fun t ht hW => ⟨⟨_, (-1, tp1', tw1'7), rfl, ⟨rfl, Eq.trans (by rw [f_XT_takeOneOf_s]; rw [← hwb]; try dsimp only; rw [if_neg (Int.not_lt.mpr c8_), if_neg (Int.not_lt.mpr c13_)]; rw [← hwb10]; try dsimp only; try rfl) rfl⟩, ⟨by rw [ht]; exact hP9, va_K.moved hW.alike hK, hD9⟩⟩, hS.F ht⟩) hS.2.2 dXT_takeOneOf_22
noncomputable def g_XT_number_L22 (tn : Int) (tp : Int) (tw : Int) (tf : Int → Int) (zl : Int) (zm : Int) : Nat → Int → Int → Int → Int × Int × Int
  | 0, _, _, _ => (0, 0, 0)
  | n9 + 1, v, k, q =>
    if k < 6 then
      if (f_XG_isDigit (f_XT_here tn q tw tf)) = 0 then
        if v < zl then
          match f_XT_refuseLast tn q tw tf with
          | (r24, tw1'25) =>
            (-1, q, tw1'25)
        else
          if zm < v then
            match f_XT_refuseLast tn q tw tf with
            | (r40, tw1'41) =>
              (-1, q, tw1'41)
          else
            if (f_XG_isDigit (f_XT_here tn q tw tf)) = 0 then
              (v, q, tw)
            else
              match f_XT_refuse tn q tw tf with
              | (r34, tw1'35) =>
                (-1, q, tw1'35)
      else
        if 0 < k then
          if v = 0 then
            if v < zl then
              match f_XT_refuseLast tn q tw tf with
              | (r49, tw1'50) =>
                (-1, q, tw1'50)
            else
              if zm < v then
                match f_XT_refuseLast tn q tw tf with
                | (r65, tw1'66) =>
                  (-1, q, tw1'66)
              else
                if (f_XG_isDigit (f_XT_here tn q tw tf)) = 0 then
                  (v, q, tw)
                else
                  match f_XT_refuse tn q tw tf with
                  | (r59, tw1'60) =>
                    (-1, q, tw1'60)
          else
            g_XT_number_L22 tn tp tw tf zl zm n9 (((v * 10) + (f_XT_here tn q tw tf)) - 48) (k + 1) (q + 1)
        else
          g_XT_number_L22 tn tp tw tf zl zm n9 (((v * 10) + (f_XT_here tn q tw tf)) - 48) (k + 1) (q + 1)
    else
      if v < zl then
        match f_XT_refuseLast tn q tw tf with
        | (r2, tw1') =>
          (-1, q, tw1')
      else
        if zm < v then
          match f_XT_refuseLast tn q tw tf with
          | (r15, tw1'16) =>
            (-1, q, tw1'16)
        else
          if (f_XG_isDigit (f_XT_here tn q tw tf)) = 0 then
            (v, q, tw)
          else
            match f_XT_refuse tn q tw tf with
            | (r9, tw1'10) =>
              (-1, q, tw1'10)
noncomputable def f_XT_number_L22 : Int → Int → Int → (Int → Int) → Int → Int → Nat → Int → Int → Int → Int × Int × Int := jopq g_XT_number_L22
theorem f_XT_number_L22_q : f_XT_number_L22 = g_XT_number_L22 := jopq_eq _
theorem f_XT_number_L22_s (tn : Int) (tp : Int) (tw : Int) (tf : Int → Int) (zl : Int) (zm : Int) (n9 : Nat) (v : Int) (k : Int) (q : Int) : f_XT_number_L22 tn tp tw tf zl zm (n9 + 1) v k q = (
    if k < 6 then
      if (f_XG_isDigit (f_XT_here tn q tw tf)) = 0 then
        if v < zl then
          match f_XT_refuseLast tn q tw tf with
          | (r24, tw1'25) =>
            (-1, q, tw1'25)
        else
          if zm < v then
            match f_XT_refuseLast tn q tw tf with
            | (r40, tw1'41) =>
              (-1, q, tw1'41)
          else
            if (f_XG_isDigit (f_XT_here tn q tw tf)) = 0 then
              (v, q, tw)
            else
              match f_XT_refuse tn q tw tf with
              | (r34, tw1'35) =>
                (-1, q, tw1'35)
      else
        if 0 < k then
          if v = 0 then
            if v < zl then
              match f_XT_refuseLast tn q tw tf with
              | (r49, tw1'50) =>
                (-1, q, tw1'50)
            else
              if zm < v then
                match f_XT_refuseLast tn q tw tf with
                | (r65, tw1'66) =>
                  (-1, q, tw1'66)
              else
                if (f_XG_isDigit (f_XT_here tn q tw tf)) = 0 then
                  (v, q, tw)
                else
                  match f_XT_refuse tn q tw tf with
                  | (r59, tw1'60) =>
                    (-1, q, tw1'60)
          else
            f_XT_number_L22 tn tp tw tf zl zm n9 (((v * 10) + (f_XT_here tn q tw tf)) - 48) (k + 1) (q + 1)
        else
          f_XT_number_L22 tn tp tw tf zl zm n9 (((v * 10) + (f_XT_here tn q tw tf)) - 48) (k + 1) (q + 1)
    else
      if v < zl then
        match f_XT_refuseLast tn q tw tf with
        | (r2, tw1') =>
          (-1, q, tw1')
      else
        if zm < v then
          match f_XT_refuseLast tn q tw tf with
          | (r15, tw1'16) =>
            (-1, q, tw1'16)
        else
          if (f_XG_isDigit (f_XT_here tn q tw tf)) = 0 then
            (v, q, tw)
          else
            match f_XT_refuse tn q tw tf with
            | (r9, tw1'10) =>
              (-1, q, tw1'10)
  ) := by rw [f_XT_number_L22_q]; rfl
theorem f_XT_number_L22_z (tn : Int) (tp : Int) (tw : Int) (tf : Int → Int) (zl : Int) (zm : Int) (v : Int) (k : Int) (q : Int) : f_XT_number_L22 tn tp tw tf zl zm 0 v k q = (0, 0, 0) := by rw [f_XT_number_L22_q]; rfl
noncomputable def g_XT_number (tn : Int) (tp : Int) (tw : Int) (tf : Int → Int) (zl : Int) (zm : Int) : Int × Int × Int :=
  match f_XT_next tn tp tw tf with
  | (r, tp1') =>
    if (f_XG_isDigit r) = 0 then
      match f_XT_refuse tn tp1' tw tf with
      | (r71, tw1'72) =>
        (-1, tp1', tw1'72)
    else
      f_XT_number_L22 tn tp tw tf zl zm (Int.toNat (6 - 0) + 1) 0 0 tp1'
noncomputable def f_XT_number : Int → Int → Int → (Int → Int) → Int → Int → Int × Int × Int := jopq g_XT_number
theorem f_XT_number_q : f_XT_number = g_XT_number := jopq_eq _
theorem f_XT_number_s (tn : Int) (tp : Int) (tw : Int) (tf : Int → Int) (zl : Int) (zm : Int) : f_XT_number tn tp tw tf zl zm = (
    match f_XT_next tn tp tw tf with
    | (r, tp1') =>
      if (f_XG_isDigit r) = 0 then
        match f_XT_refuse tn tp1' tw tf with
        | (r71, tw1'72) =>
          (-1, tp1', tw1'72)
      else
        f_XT_number_L22 tn tp tw tf zl zm (Int.toNat (6 - 0) + 1) 0 0 tp1'
  ) := by rw [f_XT_number_q]; rfl
theorem f_XT_number_L_b (tn tp tw : Int) (tf : Int → Int) (zl zm : Int) (hn : 0 ≤ tn ∧ tn ≤ 400) (hf : ∀ i, 0 ≤ tf i ∧ tf i < 256) (hz : 0 ≤ zl ∧ zl < 1000000) : ∀ (n : Nat) (v k q : Int), 6 - k < (n : Int) → 0 ≤ k → k ≤ 6 → 0 ≤ v → 0 ≤ q ∧ q ≤ tn → (((f_XT_number_L22 tn tp tw tf zl zm n v k q).1 = -1 ∨ (zl ≤ (f_XT_number_L22 tn tp tw tf zl zm n v k q).1 ∧ (f_XT_number_L22 tn tp tw tf zl zm n v k q).1 ≤ zm)) ∧ 0 ≤ (f_XT_number_L22 tn tp tw tf zl zm n v k q).2.1 ∧ (f_XT_number_L22 tn tp tw tf zl zm n v k q).2.1 ≤ tn) := by
  intro n
  induction n with
  | zero => intro v k q h; omega
  | succ n ih =>
    intro v k q h h1 h2 h3 h4
    have hh := f_XT_here_b tn q tw tf hn h4 hf
    have hd := f_XG_isDigit_01 (f_XT_here tn q tw tf) (by omega)
    rw [f_XT_number_L22_s]; simp only [f_XT_refuse_s, f_XT_refuseLast_s]
    repeat' split
    all_goals first | (exact ih _ _ _ (by omega) (by omega) (by omega) (by omega) (by omega)) | (dsimp only; omega)
theorem f_XT_number_b (tn tp tw : Int) (tf : Int → Int) (zl zm : Int) (hn : 0 ≤ tn ∧ tn ≤ 400) (hp : 0 ≤ tp ∧ tp ≤ tn) (hf : ∀ i, 0 ≤ tf i ∧ tf i < 256) (hz : 0 ≤ zl ∧ zl < 1000000) (hc : 0 ≤ zm ∧ zm < 1000000) : ((f_XT_number tn tp tw tf zl zm).1 = -1 ∨ (zl ≤ (f_XT_number tn tp tw tf zl zm).1 ∧ (f_XT_number tn tp tw tf zl zm).1 ≤ zm)) ∧ 0 ≤ (f_XT_number tn tp tw tf zl zm).2.1 ∧ (f_XT_number tn tp tw tf zl zm).2.1 ≤ tn := by
  have h := f_XT_next_b tn tp tw tf hn hp hf
  simp only [f_XT_number_s, f_XT_refuse_s]
  split
  · dsimp only; omega
  · exact f_XT_number_L_b tn tp tw tf zl zm hn hf hz _ _ _ _ (by omega) (by omega) (by omega) (by omega) (by omega)
set_option maxHeartbeats 4000000 in
set_option maxRecDepth 100000 in
theorem c_XT_number (l : Launch) (dC : Nat → ClassId) (dI : Nat → Nat → Nat) (cA : ClassId) (sz : Nat) (ta : Nat) (ts : Nat) (tn : Int) (tp : Int) (tw : Int) (tf : Int → Int) (zl : Int) (zm : Int) (hn : 0 ≤ tn ∧ tn ≤ 400) (hp : 0 ≤ tp ∧ tp ≤ tn) (hf : ∀ i, 0 ≤ tf i ∧ tf i < 256) (hz : 0 ≤ zl ∧ zl < 1000000) (hc : 0 ≤ zm ∧ zm < 1000000) : Met l yXT_number (Cond.code yXT_number cXT_number 5 (some .int) :: TBL) ({ frames := 1, cells := 0, slots := 0, locals := 20 } : Room) (va_Pc [.ref ta, .int (jI zl), .int (jI zm)] (jBw (dC, dI) [(cA, .int)] [(ta, .inr (3, [.ref ts, .int (jI tn), .int (jI tp), .int (jI tw)])), (ts, .inl (cA, 400, .inl (jA tf)))] sz)) (va_Qi (fun (r : Int32) (u : Int × Int × Int) => r = jI u.1 ∧ u = f_XT_number tn tp tw tf zl zm) (fun u t => jE (dC, dI) [(cA, .int)] [(ta, .inr (3, [.ref ts, .int (jI tn), .int (jI tp), .int (jI tw)])), (ts, .inl (cA, 400, .inl (jA tf)))] sz [(ta, .inr (3, [.ref ts, .int (jI tn), .int (jI u.2.1), .int (jI u.2.2)])), (ts, .inl (cA, 400, .inl (jA tf)))] t) (va_A [(ta, .inr (3, [.ref ts, .int (jI tn), .int (jI tp), .int (jI tw)])), (ts, .inl (cA, 400, .inl (jA tf)))] sz)) 0 0 (va_A [(ta, .inr (3, [.ref ts, .int (jI tn), .int (jI tp), .int (jI tw)])), (ts, .inl (cA, 400, .inl (jA tf)))] sz) := by
  refine jMet (cc := cXT_number) (maxL := 5) (ret := some .int) (by decide) rfl ?_
  intro p e s m args below meth c s₁ R Q hR hQ B hml hv
  obtain ⟨rfl, hsz, hP, hK, hD0, hN⟩ := hv
  have hx := B.exec
  have hb := B.bytes
  have hr := B.returns
  have hts := atoms_spec (ws := Cond.code yXT_number cXT_number 5 (some .int) :: TBL) B.pre
  have hown : s.vm.findClass RXT = some m.cls := findClass_of_methodNamed B.named
  have hlocks := B.notSynchronized
  subst hsz
  obtain ⟨A, hAe⟩ : ∃ A, A = va_A [(ta, .inr (3, [.ref ts, .int (jI tn), .int (jI tp), .int (jI tw)])), (ts, .inl (cA, 400, .inl (jA tf)))] s.heap.size := ⟨_, rfl⟩
  have hD : va_D A [(ta, .inr (3, [.ref ts, .int (jI tn), .int (jI tp), .int (jI tw)])), (ts, .inl (cA, 400, .inl (jA tf)))] := by rw [hAe]; exact hD0.self
  have hA : ∀ q : Nat, s.heap.size ≤ q → A q := fun q h => by rw [hAe]; exact Or.inr h
  have hS : va_S A s.heap s.heap [] := va_S.rf
  have hP : va_P (dC, dI) vwCl [(ta, .inr (3, [.ref ts, .int (jI tn), .int (jI tp), .int (jI tw)])), (ts, .inl (cA, 400, .inl (jA tf)))] s.heap := hP
  have hl := lv_entry ([.ref ta, .int (jI zl), .int (jI zm)]) (n := 5) (Nat.le_of_ble_eq_true rfl)
  rw [lg_entry_eq]
  generalize (lg_sl ([.ref ta, .int (jI zl), .int (jI zm)]) ++ List.replicate (5 - (lg_sl ([.ref ta, .int (jI zl), .int (jI zm)])).length) Slot.unset).toArray = ls at hl ⊢
  have hl : lv_has ls 5 [(0, .ref ta), (1, .int (jI zl)), (2, .int (jI zm))] := hl
  refine lv_aload_n hx hb dXT_number_0 rfl (lv_at hl 0 rfl) ?_
  refine jwVi (rest := []) (wr := []) ⟨hx, hb, hml, hown, hts⟩ (c_XT_next l dC dI cA _ ta ts tn tp tw tf (by first | assumption | omega) (by first | assumption | omega) (by first | assumption | omega)) (cwV 0 hts (jG_V tw_154 tw_143 tw_144 tw_2 tw_145) rfl rfl rfl (by decide +kernel) (by rw [hR]; exact ⟨Nat.le_of_ble_eq_true rfl, Nat.le_of_ble_eq_true rfl⟩)) hK hP hD hS hA hN [0, 1] [] rfl rfl (by decide) (by decide) (by decide) 0 3 rfl rfl rfl rfl hl.1 rfl (Nat.le_of_ble_eq_true rfl) dXT_number_1 (by rw [hR]; exact ⟨Nat.le_of_ble_eq_true rfl, Nat.le_of_ble_eq_true rfl⟩) (fun v u H locs hwb hP hD hS => ?_)
  obtain ⟨r, tp1'⟩ := u
  try dsimp only at hwb
  obtain ⟨er, hwb⟩ := hwb
  subst er
  have hP : va_P (dC, dI) vwCl [(ta, .inr (3, [.ref ts, .int (jI tn), .int (jI tp1'), .int (jI tw)])), (ts, .inl (cA, 400, .inl (jA tf)))] H := hP
  have hD : va_D A [(ta, .inr (3, [.ref ts, .int (jI tn), .int (jI tp1'), .int (jI tw)])), (ts, .inl (cA, 400, .inl (jA tf)))] := hD
  have f := f_XT_next_b tn tp tw tf (by first | assumption | omega) (by first | assumption | omega) (by first | assumption | omega)
  rw [← hwb] at f; try dsimp only at f
  refine jrNi (rest := []) ⟨hx, hb, hml, hown, hts⟩ (c_XG_isDigit l dC dI cA r (by first | assumption | omega)) ⟨va_cnB 1 hts (jG (jG_c tw_200)) rfl rfl rfl (jN.n198 hN) (hts _ (jmem tw_1)) (by decide +kernel) (by rw [hR]; exact ⟨Nat.le_of_ble_eq_true rfl, Nat.le_of_ble_eq_true rfl⟩), hts _ (jmem tw_199), trivial⟩ hK hP hN [] rfl rfl hl.1 rfl (Nat.le_of_ble_eq_true rfl) dXT_number_4 (by rw [hR]; exact ⟨Nat.le_of_ble_eq_true rfl, Nat.le_of_ble_eq_true rfl⟩) ?_
  have f1 := f_XG_isDigit_01 r (by first | assumption | omega)
  refine ji_if_ne (tgt := 17) hx hb dXT_number_7 (by decide) (by omega) (fun c7_ => ?_) (fun c7_ => ?_)
  · refine ji_iconst hx hb dXT_number_17 ?_
    refine lv_istore_n (lv' := [(3, .int (jI 0)), (0, .ref ta), (1, .int (jI zl)), (2, .int (jI zm))]) hx hb dXT_number_18 rfl hl (by decide) rfl (fun ls hl => ?_)
    refine ji_iconst hx hb dXT_number_19 ?_
    refine lv_istore (lv' := [(4, .int (jI 0)), (3, .int (jI 0)), (0, .ref ta), (1, .int (jI zl)), (2, .int (jI zm))]) hx hb dXT_number_20 hl (by decide) rfl (fun ls hl => ?_)
    have loop22 : ∀ (n9 : Nat) (v : Int) (k : Int) (q : Int) , 6 - k < (n9 : Int) → f_XT_number_L22 tn tp tw tf zl zm n9 v k q = f_XT_number tn tp tw tf zl zm → 0 ≤ k ∧ k ≤ 6 → 0 ≤ v → (k < 1 → v < 1) ∧ (k < 2 → v < 10) ∧ (k < 3 → v < 100) ∧ (k < 4 → v < 1000) ∧ (k < 5 → v < 10000) ∧ (k < 6 → v < 100000) ∧ v < 1000000 → 0 ≤ q ∧ q ≤ tn → ∀ (H : Heap) (locs : List Loc), va_P (dC, dI) vwCl [(ta, .inr (3, [.ref ts, .int (jI tn), .int (jI q), .int (jI tw)])), (ts, .inl (cA, 400, .inl (jA tf)))] H → va_D A [(ta, .inr (3, [.ref ts, .int (jI tn), .int (jI q), .int (jI tw)])), (ts, .inl (cA, 400, .inl (jA tf)))] → va_S A s.heap H locs → ∀ ls : Array Slot, lv_has ls 5 [(4, .int (jI k)), (3, .int (jI v)), (0, .ref ta), (1, .int (jI zl)), (2, .int (jI zm))] → W p l e R s m ([.ref ta, .int (jI zl), .int (jI zm)] : List Value).toArray below meth c H locs 0 0 Q (F0 m 22 ls []) := by
      intro n9
      induction n9 with
      | zero =>
        intro v k q hm hF hk hv hw hq
        exact absurd hm (by omega)
      | succ n9 ih22 =>
        intro v k q hm hF hk hv hw hq H locs hP hD hS ls hl
        refine lv_iload hx hb dXT_number_22 (lv_at hl 0 rfl) ?_
        refine ji_bipush hx hb dXT_number_24 (by decide) ?_
        refine ji_icmp_ge (tgt := 80) hx hb dXT_number_26 (by decide) (by omega) (by omega) (fun c26_ => ?_) (fun c26_ => ?_)
        · refine lv_iload_n hx hb dXT_number_80 rfl (lv_at hl 1 rfl) ?_
          refine lv_iload_n hx hb dXT_number_81 rfl (lv_at hl 3 rfl) ?_
          refine ji_icmp_lt (tgt := 90) hx hb dXT_number_82 (by decide) (by omega) (by omega) (fun c82_ => ?_) (fun c82_ => ?_)
          · refine lv_aload_n hx hb dXT_number_90 rfl (lv_at hl 2 rfl) ?_
            refine jwVi (rest := []) (wr := []) ⟨hx, hb, hml, hown, hts⟩ (c_XT_refuseLast l dC dI cA _ ta ts tn q tw tf) (cwV 0 hts (jG_V tw_205 tw_175 tw_176 tw_2 tw_177) rfl rfl rfl (by decide +kernel) (by rw [hR]; exact ⟨Nat.le_of_ble_eq_true rfl, Nat.le_of_ble_eq_true rfl⟩)) hK hP hD hS hA hN [0, 1] [] rfl rfl (by decide) (by decide) (by decide) 0 3 rfl rfl rfl rfl hl.1 rfl (Nat.le_of_ble_eq_true rfl) dXT_number_91 (by rw [hR]; exact ⟨Nat.le_of_ble_eq_true rfl, Nat.le_of_ble_eq_true rfl⟩) (fun v4 u3 H locs hwb5 hP hD hS => ?_)
            obtain ⟨r2, tw1'⟩ := u3
            try dsimp only at hwb5
            obtain ⟨er, hwb5⟩ := hwb5
            subst er
            have hP : va_P (dC, dI) vwCl [(ta, .inr (3, [.ref ts, .int (jI tn), .int (jI q), .int (jI tw1')])), (ts, .inl (cA, 400, .inl (jA tf)))] H := hP
            have hD : va_D A [(ta, .inr (3, [.ref ts, .int (jI tn), .int (jI q), .int (jI tw1')])), (ts, .inl (cA, 400, .inl (jA tf)))] := hD
            have f6 := f_XT_refuseLast_b tn q tw tf
            rw [← hwb5] at f6; try dsimp only at f6
            refine lv_pop hx hb dXT_number_94 rfl ?_
            refine ji_iconst hx hb dXT_number_95 ?_
            have hP9 := hP.sub (ws' := [(ta, .inr (3, [.ref ts, .int (jI tn), .int (jI q), .int (jI tw1')])), (ts, .inl (cA, 400, .inl (jA tf)))]) [0, 1] rfl
            have hD9 := hD.sub (ws' := [(ta, .inr (3, [.ref ts, .int (jI tn), .int (jI q), .int (jI tw1')])), (ts, .inl (cA, 400, .inl (jA tf)))]) [0, 1] (by decide) rfl
            subst hAe
            subst hQ
            exact W.iret (v := jI (-1)) hx hb hr (fun t ht hW => ⟨⟨_, (-1, q, tw1'), rfl, ⟨rfl, Eq.trans (by rw [f_XT_number_L22_s]; rw [if_neg (Int.not_lt.mpr c26_), if_pos c82_]; rw [← hwb5]; try dsimp only; try rfl) hF⟩, ⟨by rw [ht]; exact hP9, va_K.moved hW.alike hK, hD9⟩⟩, hS.F ht⟩) hS.2.2 dXT_number_96
          · refine lv_iload_n hx hb dXT_number_85 rfl (lv_at hl 1 rfl) ?_
            refine lv_iload_n hx hb dXT_number_86 rfl (lv_at hl 4 rfl) ?_
            refine ji_icmp_le (tgt := 97) hx hb dXT_number_87 (by decide) (by omega) (by omega) (fun c87_ => ?_) (fun c87_ => ?_)
            · refine lv_aload_n hx hb dXT_number_97 rfl (lv_at hl 2 rfl) ?_
              refine jrVi (rest := []) ⟨hx, hb, hml, hown, hts⟩ (c_XT_here l dC dI cA ta ts tn q tw tf (by first | assumption | omega) (by first | assumption | omega) (by first | assumption | omega)) (cwV 0 hts (jG_V tw_201 tw_202 tw_203 tw_2 tw_204) rfl rfl rfl (by decide +kernel) (by rw [hR]; exact ⟨Nat.le_of_ble_eq_true rfl, Nat.le_of_ble_eq_true rfl⟩)) hK hP hN [0, 1] rfl 0 3 rfl rfl rfl rfl hl.1 rfl (Nat.le_of_ble_eq_true rfl) dXT_number_98 (by rw [hR]; exact ⟨Nat.le_of_ble_eq_true rfl, Nat.le_of_ble_eq_true rfl⟩) ?_
              have f7 := f_XT_here_b tn q tw tf (by first | assumption | omega) (by first | assumption | omega) (by first | assumption | omega)
              refine jrNi (rest := []) ⟨hx, hb, hml, hown, hts⟩ (c_XG_isDigit l dC dI cA (f_XT_here tn q tw tf) (by first | assumption | omega)) ⟨va_cnB 1 hts (jG (jG_c tw_200)) rfl rfl rfl (jN.n198 hN) (hts _ (jmem tw_1)) (by decide +kernel) (by rw [hR]; exact ⟨Nat.le_of_ble_eq_true rfl, Nat.le_of_ble_eq_true rfl⟩), hts _ (jmem tw_199), trivial⟩ hK hP hN [] rfl rfl hl.1 rfl (Nat.le_of_ble_eq_true rfl) dXT_number_101 (by rw [hR]; exact ⟨Nat.le_of_ble_eq_true rfl, Nat.le_of_ble_eq_true rfl⟩) ?_
              have f8 := f_XG_isDigit_01 (f_XT_here tn q tw tf) (by first | assumption | omega)
              refine ji_if_eq (tgt := 114) hx hb dXT_number_104 (by decide) (by omega) (fun c104_ => ?_) (fun c104_ => ?_)
              · refine lv_iload_n hx hb dXT_number_114 rfl (lv_at hl 1 rfl) ?_
                have hP9 := hP.sub (ws' := [(ta, .inr (3, [.ref ts, .int (jI tn), .int (jI q), .int (jI tw)])), (ts, .inl (cA, 400, .inl (jA tf)))]) [0, 1] rfl
                have hD9 := hD.sub (ws' := [(ta, .inr (3, [.ref ts, .int (jI tn), .int (jI q), .int (jI tw)])), (ts, .inl (cA, 400, .inl (jA tf)))]) [0, 1] (by decide) rfl
                subst hAe
                subst hQ
                exact W.iret (v := jI v) hx hb hr (fun t ht hW => ⟨⟨_, (v, q, tw), rfl, ⟨rfl, Eq.trans (by rw [f_XT_number_L22_s]; rw [if_neg (Int.not_lt.mpr c26_), if_neg (Int.not_lt.mpr c82_), if_neg (Int.not_lt.mpr c87_), if_pos c104_]; try rfl) hF⟩, ⟨by rw [ht]; exact hP9, va_K.moved hW.alike hK, hD9⟩⟩, hS.F ht⟩) hS.2.2 dXT_number_115
              · refine lv_aload_n hx hb dXT_number_107 rfl (lv_at hl 2 rfl) ?_
                refine jwVi (rest := []) (wr := []) ⟨hx, hb, hml, hown, hts⟩ (c_XT_refuse l dC dI cA _ ta ts tn q tw tf) (cwV 0 hts (jG_V tw_163 tw_164 tw_165 tw_2 tw_166) rfl rfl rfl (by decide +kernel) (by rw [hR]; exact ⟨Nat.le_of_ble_eq_true rfl, Nat.le_of_ble_eq_true rfl⟩)) hK hP hD hS hA hN [0, 1] [] rfl rfl (by decide) (by decide) (by decide) 0 3 rfl rfl rfl rfl hl.1 rfl (Nat.le_of_ble_eq_true rfl) dXT_number_108 (by rw [hR]; exact ⟨Nat.le_of_ble_eq_true rfl, Nat.le_of_ble_eq_true rfl⟩) (fun v12 u11 H locs hwb13 hP hD hS => ?_)
                obtain ⟨r9, tw1'10⟩ := u11
                try dsimp only at hwb13
                obtain ⟨er, hwb13⟩ := hwb13
                subst er
                have hP : va_P (dC, dI) vwCl [(ta, .inr (3, [.ref ts, .int (jI tn), .int (jI q), .int (jI tw1'10)])), (ts, .inl (cA, 400, .inl (jA tf)))] H := hP
                have hD : va_D A [(ta, .inr (3, [.ref ts, .int (jI tn), .int (jI q), .int (jI tw1'10)])), (ts, .inl (cA, 400, .inl (jA tf)))] := hD
                have f14 := f_XT_refuse_b tn q tw tf
                rw [← hwb13] at f14; try dsimp only at f14
                refine lv_pop hx hb dXT_number_111 rfl ?_
                refine ji_iconst hx hb dXT_number_112 ?_
                have hP9 := hP.sub (ws' := [(ta, .inr (3, [.ref ts, .int (jI tn), .int (jI q), .int (jI tw1'10)])), (ts, .inl (cA, 400, .inl (jA tf)))]) [0, 1] rfl
                have hD9 := hD.sub (ws' := [(ta, .inr (3, [.ref ts, .int (jI tn), .int (jI q), .int (jI tw1'10)])), (ts, .inl (cA, 400, .inl (jA tf)))]) [0, 1] (by decide) rfl
                subst hAe
                subst hQ
                exact W.iret (v := jI (-1)) hx hb hr (fun t ht hW => ⟨⟨_, (-1, q, tw1'10), rfl, ⟨rfl, Eq.trans (by rw [f_XT_number_L22_s]; rw [if_neg (Int.not_lt.mpr c26_), if_neg (Int.not_lt.mpr c82_), if_neg (Int.not_lt.mpr c87_), if_neg c104_]; rw [← hwb13]; try dsimp only; try rfl) hF⟩, ⟨by rw [ht]; exact hP9, va_K.moved hW.alike hK, hD9⟩⟩, hS.F ht⟩) hS.2.2 dXT_number_113
            · refine lv_aload_n hx hb dXT_number_90 rfl (lv_at hl 2 rfl) ?_
              refine jwVi (rest := []) (wr := []) ⟨hx, hb, hml, hown, hts⟩ (c_XT_refuseLast l dC dI cA _ ta ts tn q tw tf) (cwV 0 hts (jG_V tw_205 tw_175 tw_176 tw_2 tw_177) rfl rfl rfl (by decide +kernel) (by rw [hR]; exact ⟨Nat.le_of_ble_eq_true rfl, Nat.le_of_ble_eq_true rfl⟩)) hK hP hD hS hA hN [0, 1] [] rfl rfl (by decide) (by decide) (by decide) 0 3 rfl rfl rfl rfl hl.1 rfl (Nat.le_of_ble_eq_true rfl) dXT_number_91 (by rw [hR]; exact ⟨Nat.le_of_ble_eq_true rfl, Nat.le_of_ble_eq_true rfl⟩) (fun v18 u17 H locs hwb19 hP hD hS => ?_)
              obtain ⟨r15, tw1'16⟩ := u17
              try dsimp only at hwb19
              obtain ⟨er, hwb19⟩ := hwb19
              subst er
              have hP : va_P (dC, dI) vwCl [(ta, .inr (3, [.ref ts, .int (jI tn), .int (jI q), .int (jI tw1'16)])), (ts, .inl (cA, 400, .inl (jA tf)))] H := hP
              have hD : va_D A [(ta, .inr (3, [.ref ts, .int (jI tn), .int (jI q), .int (jI tw1'16)])), (ts, .inl (cA, 400, .inl (jA tf)))] := hD
              have f20 := f_XT_refuseLast_b tn q tw tf
              rw [← hwb19] at f20; try dsimp only at f20
              refine lv_pop hx hb dXT_number_94 rfl ?_
              refine ji_iconst hx hb dXT_number_95 ?_
              have hP9 := hP.sub (ws' := [(ta, .inr (3, [.ref ts, .int (jI tn), .int (jI q), .int (jI tw1'16)])), (ts, .inl (cA, 400, .inl (jA tf)))]) [0, 1] rfl
              have hD9 := hD.sub (ws' := [(ta, .inr (3, [.ref ts, .int (jI tn), .int (jI q), .int (jI tw1'16)])), (ts, .inl (cA, 400, .inl (jA tf)))]) [0, 1] (by decide) rfl
              subst hAe
              subst hQ
              exact W.iret (v := jI (-1)) hx hb hr (fun t ht hW => ⟨⟨_, (-1, q, tw1'16), rfl, ⟨rfl, Eq.trans (by rw [f_XT_number_L22_s]; rw [if_neg (Int.not_lt.mpr c26_), if_neg (Int.not_lt.mpr c82_), if_pos c87_]; rw [← hwb19]; try dsimp only; try rfl) hF⟩, ⟨by rw [ht]; exact hP9, va_K.moved hW.alike hK, hD9⟩⟩, hS.F ht⟩) hS.2.2 dXT_number_96
        · refine lv_aload_n hx hb dXT_number_29 rfl (lv_at hl 2 rfl) ?_
          refine jrVi (rest := []) ⟨hx, hb, hml, hown, hts⟩ (c_XT_here l dC dI cA ta ts tn q tw tf (by first | assumption | omega) (by first | assumption | omega) (by first | assumption | omega)) (cwV 0 hts (jG_V tw_201 tw_202 tw_203 tw_2 tw_204) rfl rfl rfl (by decide +kernel) (by rw [hR]; exact ⟨Nat.le_of_ble_eq_true rfl, Nat.le_of_ble_eq_true rfl⟩)) hK hP hN [0, 1] rfl 0 3 rfl rfl rfl rfl hl.1 rfl (Nat.le_of_ble_eq_true rfl) dXT_number_30 (by rw [hR]; exact ⟨Nat.le_of_ble_eq_true rfl, Nat.le_of_ble_eq_true rfl⟩) ?_
          have f21 := f_XT_here_b tn q tw tf (by first | assumption | omega) (by first | assumption | omega) (by first | assumption | omega)
          refine jrNi (rest := []) ⟨hx, hb, hml, hown, hts⟩ (c_XG_isDigit l dC dI cA (f_XT_here tn q tw tf) (by first | assumption | omega)) ⟨va_cnB 1 hts (jG (jG_c tw_200)) rfl rfl rfl (jN.n198 hN) (hts _ (jmem tw_1)) (by decide +kernel) (by rw [hR]; exact ⟨Nat.le_of_ble_eq_true rfl, Nat.le_of_ble_eq_true rfl⟩), hts _ (jmem tw_199), trivial⟩ hK hP hN [] rfl rfl hl.1 rfl (Nat.le_of_ble_eq_true rfl) dXT_number_33 (by rw [hR]; exact ⟨Nat.le_of_ble_eq_true rfl, Nat.le_of_ble_eq_true rfl⟩) ?_
          have f22 := f_XG_isDigit_01 (f_XT_here tn q tw tf) (by first | assumption | omega)
          refine ji_if_eq (tgt := 80) hx hb dXT_number_36 (by decide) (by omega) (fun c36_ => ?_) (fun c36_ => ?_)
          · refine lv_iload_n hx hb dXT_number_80 rfl (lv_at hl 1 rfl) ?_
            refine lv_iload_n hx hb dXT_number_81 rfl (lv_at hl 3 rfl) ?_
            refine ji_icmp_lt (tgt := 90) hx hb dXT_number_82 (by decide) (by omega) (by omega) (fun c82_23 => ?_) (fun c82_23 => ?_)
            · refine lv_aload_n hx hb dXT_number_90 rfl (lv_at hl 2 rfl) ?_
              refine jwVi (rest := []) (wr := []) ⟨hx, hb, hml, hown, hts⟩ (c_XT_refuseLast l dC dI cA _ ta ts tn q tw tf) (cwV 0 hts (jG_V tw_205 tw_175 tw_176 tw_2 tw_177) rfl rfl rfl (by decide +kernel) (by rw [hR]; exact ⟨Nat.le_of_ble_eq_true rfl, Nat.le_of_ble_eq_true rfl⟩)) hK hP hD hS hA hN [0, 1] [] rfl rfl (by decide) (by decide) (by decide) 0 3 rfl rfl rfl rfl hl.1 rfl (Nat.le_of_ble_eq_true rfl) dXT_number_91 (by rw [hR]; exact ⟨Nat.le_of_ble_eq_true rfl, Nat.le_of_ble_eq_true rfl⟩) (fun v27 u26 H locs hwb28 hP hD hS => ?_)
              obtain ⟨r24, tw1'25⟩ := u26
              try dsimp only at hwb28
              obtain ⟨er, hwb28⟩ := hwb28
              subst er
              have hP : va_P (dC, dI) vwCl [(ta, .inr (3, [.ref ts, .int (jI tn), .int (jI q), .int (jI tw1'25)])), (ts, .inl (cA, 400, .inl (jA tf)))] H := hP
              have hD : va_D A [(ta, .inr (3, [.ref ts, .int (jI tn), .int (jI q), .int (jI tw1'25)])), (ts, .inl (cA, 400, .inl (jA tf)))] := hD
              have f29 := f_XT_refuseLast_b tn q tw tf
              rw [← hwb28] at f29; try dsimp only at f29
              refine lv_pop hx hb dXT_number_94 rfl ?_
              refine ji_iconst hx hb dXT_number_95 ?_
              have hP9 := hP.sub (ws' := [(ta, .inr (3, [.ref ts, .int (jI tn), .int (jI q), .int (jI tw1'25)])), (ts, .inl (cA, 400, .inl (jA tf)))]) [0, 1] rfl
              have hD9 := hD.sub (ws' := [(ta, .inr (3, [.ref ts, .int (jI tn), .int (jI q), .int (jI tw1'25)])), (ts, .inl (cA, 400, .inl (jA tf)))]) [0, 1] (by decide) rfl
              subst hAe
              subst hQ
              exact W.iret (v := jI (-1)) hx hb hr (fun t ht hW => ⟨⟨_, (-1, q, tw1'25), rfl, ⟨rfl, Eq.trans (by rw [f_XT_number_L22_s]; rw [if_pos c26_, if_pos c36_, if_pos c82_23]; rw [← hwb28]; try dsimp only; try rfl) hF⟩, ⟨by rw [ht]; exact hP9, va_K.moved hW.alike hK, hD9⟩⟩, hS.F ht⟩) hS.2.2 dXT_number_96
            · refine lv_iload_n hx hb dXT_number_85 rfl (lv_at hl 1 rfl) ?_
              refine lv_iload_n hx hb dXT_number_86 rfl (lv_at hl 4 rfl) ?_
              refine ji_icmp_le (tgt := 97) hx hb dXT_number_87 (by decide) (by omega) (by omega) (fun c87_30 => ?_) (fun c87_30 => ?_)
              · refine lv_aload_n hx hb dXT_number_97 rfl (lv_at hl 2 rfl) ?_
                refine jrVi (rest := []) ⟨hx, hb, hml, hown, hts⟩ (c_XT_here l dC dI cA ta ts tn q tw tf (by first | assumption | omega) (by first | assumption | omega) (by first | assumption | omega)) (cwV 0 hts (jG_V tw_201 tw_202 tw_203 tw_2 tw_204) rfl rfl rfl (by decide +kernel) (by rw [hR]; exact ⟨Nat.le_of_ble_eq_true rfl, Nat.le_of_ble_eq_true rfl⟩)) hK hP hN [0, 1] rfl 0 3 rfl rfl rfl rfl hl.1 rfl (Nat.le_of_ble_eq_true rfl) dXT_number_98 (by rw [hR]; exact ⟨Nat.le_of_ble_eq_true rfl, Nat.le_of_ble_eq_true rfl⟩) ?_
                have f31 := f_XT_here_b tn q tw tf (by first | assumption | omega) (by first | assumption | omega) (by first | assumption | omega)
                refine jrNi (rest := []) ⟨hx, hb, hml, hown, hts⟩ (c_XG_isDigit l dC dI cA (f_XT_here tn q tw tf) (by first | assumption | omega)) ⟨va_cnB 1 hts (jG (jG_c tw_200)) rfl rfl rfl (jN.n198 hN) (hts _ (jmem tw_1)) (by decide +kernel) (by rw [hR]; exact ⟨Nat.le_of_ble_eq_true rfl, Nat.le_of_ble_eq_true rfl⟩), hts _ (jmem tw_199), trivial⟩ hK hP hN [] rfl rfl hl.1 rfl (Nat.le_of_ble_eq_true rfl) dXT_number_101 (by rw [hR]; exact ⟨Nat.le_of_ble_eq_true rfl, Nat.le_of_ble_eq_true rfl⟩) ?_
                have f32 := f_XG_isDigit_01 (f_XT_here tn q tw tf) (by first | assumption | omega)
                refine ji_if_eq (tgt := 114) hx hb dXT_number_104 (by decide) (by omega) (fun c104_33 => ?_) (fun c104_33 => ?_)
                · refine lv_iload_n hx hb dXT_number_114 rfl (lv_at hl 1 rfl) ?_
                  have hP9 := hP.sub (ws' := [(ta, .inr (3, [.ref ts, .int (jI tn), .int (jI q), .int (jI tw)])), (ts, .inl (cA, 400, .inl (jA tf)))]) [0, 1] rfl
                  have hD9 := hD.sub (ws' := [(ta, .inr (3, [.ref ts, .int (jI tn), .int (jI q), .int (jI tw)])), (ts, .inl (cA, 400, .inl (jA tf)))]) [0, 1] (by decide) rfl
                  subst hAe
                  subst hQ
                  exact W.iret (v := jI v) hx hb hr (fun t ht hW => ⟨⟨_, (v, q, tw), rfl, ⟨rfl, Eq.trans (by rw [f_XT_number_L22_s]; rw [if_pos c26_, if_pos c36_, if_neg (Int.not_lt.mpr c82_23), if_neg (Int.not_lt.mpr c87_30), if_pos c104_33]; try rfl) hF⟩, ⟨by rw [ht]; exact hP9, va_K.moved hW.alike hK, hD9⟩⟩, hS.F ht⟩) hS.2.2 dXT_number_115
                · refine lv_aload_n hx hb dXT_number_107 rfl (lv_at hl 2 rfl) ?_
                  refine jwVi (rest := []) (wr := []) ⟨hx, hb, hml, hown, hts⟩ (c_XT_refuse l dC dI cA _ ta ts tn q tw tf) (cwV 0 hts (jG_V tw_163 tw_164 tw_165 tw_2 tw_166) rfl rfl rfl (by decide +kernel) (by rw [hR]; exact ⟨Nat.le_of_ble_eq_true rfl, Nat.le_of_ble_eq_true rfl⟩)) hK hP hD hS hA hN [0, 1] [] rfl rfl (by decide) (by decide) (by decide) 0 3 rfl rfl rfl rfl hl.1 rfl (Nat.le_of_ble_eq_true rfl) dXT_number_108 (by rw [hR]; exact ⟨Nat.le_of_ble_eq_true rfl, Nat.le_of_ble_eq_true rfl⟩) (fun v37 u36 H locs hwb38 hP hD hS => ?_)
                  obtain ⟨r34, tw1'35⟩ := u36
                  try dsimp only at hwb38
                  obtain ⟨er, hwb38⟩ := hwb38
                  subst er
                  have hP : va_P (dC, dI) vwCl [(ta, .inr (3, [.ref ts, .int (jI tn), .int (jI q), .int (jI tw1'35)])), (ts, .inl (cA, 400, .inl (jA tf)))] H := hP
                  have hD : va_D A [(ta, .inr (3, [.ref ts, .int (jI tn), .int (jI q), .int (jI tw1'35)])), (ts, .inl (cA, 400, .inl (jA tf)))] := hD
                  have f39 := f_XT_refuse_b tn q tw tf
                  rw [← hwb38] at f39; try dsimp only at f39
                  refine lv_pop hx hb dXT_number_111 rfl ?_
                  refine ji_iconst hx hb dXT_number_112 ?_
                  have hP9 := hP.sub (ws' := [(ta, .inr (3, [.ref ts, .int (jI tn), .int (jI q), .int (jI tw1'35)])), (ts, .inl (cA, 400, .inl (jA tf)))]) [0, 1] rfl
                  have hD9 := hD.sub (ws' := [(ta, .inr (3, [.ref ts, .int (jI tn), .int (jI q), .int (jI tw1'35)])), (ts, .inl (cA, 400, .inl (jA tf)))]) [0, 1] (by decide) rfl
                  subst hAe
                  subst hQ
                  exact W.iret (v := jI (-1)) hx hb hr (fun t ht hW => ⟨⟨_, (-1, q, tw1'35), rfl, ⟨rfl, Eq.trans (by rw [f_XT_number_L22_s]; rw [if_pos c26_, if_pos c36_, if_neg (Int.not_lt.mpr c82_23), if_neg (Int.not_lt.mpr c87_30), if_neg c104_33]; rw [← hwb38]; try dsimp only; try rfl) hF⟩, ⟨by rw [ht]; exact hP9, va_K.moved hW.alike hK, hD9⟩⟩, hS.F ht⟩) hS.2.2 dXT_number_113
              · refine lv_aload_n hx hb dXT_number_90 rfl (lv_at hl 2 rfl) ?_
                refine jwVi (rest := []) (wr := []) ⟨hx, hb, hml, hown, hts⟩ (c_XT_refuseLast l dC dI cA _ ta ts tn q tw tf) (cwV 0 hts (jG_V tw_205 tw_175 tw_176 tw_2 tw_177) rfl rfl rfl (by decide +kernel) (by rw [hR]; exact ⟨Nat.le_of_ble_eq_true rfl, Nat.le_of_ble_eq_true rfl⟩)) hK hP hD hS hA hN [0, 1] [] rfl rfl (by decide) (by decide) (by decide) 0 3 rfl rfl rfl rfl hl.1 rfl (Nat.le_of_ble_eq_true rfl) dXT_number_91 (by rw [hR]; exact ⟨Nat.le_of_ble_eq_true rfl, Nat.le_of_ble_eq_true rfl⟩) (fun v43 u42 H locs hwb44 hP hD hS => ?_)
                obtain ⟨r40, tw1'41⟩ := u42
                try dsimp only at hwb44
                obtain ⟨er, hwb44⟩ := hwb44
                subst er
                have hP : va_P (dC, dI) vwCl [(ta, .inr (3, [.ref ts, .int (jI tn), .int (jI q), .int (jI tw1'41)])), (ts, .inl (cA, 400, .inl (jA tf)))] H := hP
                have hD : va_D A [(ta, .inr (3, [.ref ts, .int (jI tn), .int (jI q), .int (jI tw1'41)])), (ts, .inl (cA, 400, .inl (jA tf)))] := hD
                have f45 := f_XT_refuseLast_b tn q tw tf
                rw [← hwb44] at f45; try dsimp only at f45
                refine lv_pop hx hb dXT_number_94 rfl ?_
                refine ji_iconst hx hb dXT_number_95 ?_
                have hP9 := hP.sub (ws' := [(ta, .inr (3, [.ref ts, .int (jI tn), .int (jI q), .int (jI tw1'41)])), (ts, .inl (cA, 400, .inl (jA tf)))]) [0, 1] rfl
                have hD9 := hD.sub (ws' := [(ta, .inr (3, [.ref ts, .int (jI tn), .int (jI q), .int (jI tw1'41)])), (ts, .inl (cA, 400, .inl (jA tf)))]) [0, 1] (by decide) rfl
                subst hAe
                subst hQ
                exact W.iret (v := jI (-1)) hx hb hr (fun t ht hW => ⟨⟨_, (-1, q, tw1'41), rfl, ⟨rfl, Eq.trans (by rw [f_XT_number_L22_s]; rw [if_pos c26_, if_pos c36_, if_neg (Int.not_lt.mpr c82_23), if_pos c87_30]; rw [← hwb44]; try dsimp only; try rfl) hF⟩, ⟨by rw [ht]; exact hP9, va_K.moved hW.alike hK, hD9⟩⟩, hS.F ht⟩) hS.2.2 dXT_number_96
          · refine lv_iload hx hb dXT_number_39 (lv_at hl 0 rfl) ?_
            refine ji_if_le (tgt := 51) hx hb dXT_number_41 (by decide) (by omega) (fun c41_ => ?_) (fun c41_ => ?_)
            · refine lv_iload_n hx hb dXT_number_51 rfl (lv_at hl 1 rfl) ?_
              refine ji_bipush hx hb dXT_number_52 (by decide) ?_
              refine ji_imul hx hb dXT_number_54 ?_
              refine lv_aload_n hx hb dXT_number_55 rfl (lv_at hl 2 rfl) ?_
              refine jrVi (rest := [.int (jI (v * 10))]) ⟨hx, hb, hml, hown, hts⟩ (c_XT_here l dC dI cA ta ts tn q tw tf (by first | assumption | omega) (by first | assumption | omega) (by first | assumption | omega)) (cwV 0 hts (jG_V tw_201 tw_202 tw_203 tw_2 tw_204) rfl rfl rfl (by decide +kernel) (by rw [hR]; exact ⟨Nat.le_of_ble_eq_true rfl, Nat.le_of_ble_eq_true rfl⟩)) hK hP hN [0, 1] rfl 0 3 rfl rfl rfl rfl hl.1 rfl (Nat.le_of_ble_eq_true rfl) dXT_number_56 (by rw [hR]; exact ⟨Nat.le_of_ble_eq_true rfl, Nat.le_of_ble_eq_true rfl⟩) ?_
              have f46 := f_XT_here_b tn q tw tf (by first | assumption | omega) (by first | assumption | omega) (by first | assumption | omega)
              refine ji_iadd hx hb dXT_number_59 ?_
              refine ji_bipush hx hb dXT_number_60 (by decide) ?_
              refine ji_isub hx hb dXT_number_62 ?_
              refine lv_istore_n (lv' := [(3, .int (jI (((v * 10) + (f_XT_here tn q tw tf)) - 48))), (4, .int (jI k)), (0, .ref ta), (1, .int (jI zl)), (2, .int (jI zm))]) hx hb dXT_number_63 rfl hl (by decide) rfl (fun ls hl => ?_)
              refine lv_aload_n hx hb dXT_number_64 rfl (lv_at hl 2 rfl) ?_
              refine lv_dup hx hb dXT_number_65 rfl ?_
              refine va_get (D := (dC, dI)) (ci := 3) (v := .int (jI q)) (C := RXT) (T := TXT) (N := 4) hx hb hts (fun w h => jmem (inXT w h)) hown hK hP 0 rfl rfl 2 (by decide) (hts _ (jmem tw_32)) (fun _ h9 => h9) rfl dXT_number_66 ?_
              refine ji_iconst hx hb dXT_number_69 ?_
              refine ji_iadd hx hb dXT_number_70 ?_
              refine va_put (D := (dC, dI)) (ci := 3) (v := .int (jI (q + 1))) (ty := (.int)) (C := RXT) (T := TXT) (N := 4) hx hb hts (fun w h => jmem (inXT w h)) tyXT tyXT_ok nXT hown hK hP hD hS 0 rfl rfl 2 (by decide) (hts _ (jmem tw_32)) (fun _ h9 => h9) rfl (by decide +kernel) rfl rfl (Nat.le_of_ble_eq_true rfl) dXT_number_71 (fun H locs hP hD hS => ?_)
              have hP : va_P (dC, dI) vwCl [(ta, .inr (3, [.ref ts, .int (jI tn), .int (jI (q + 1)), .int (jI tw)])), (ts, .inl (cA, 400, .inl (jA tf)))] H := hP
              have hD : va_D A [(ta, .inr (3, [.ref ts, .int (jI tn), .int (jI (q + 1)), .int (jI tw)])), (ts, .inl (cA, 400, .inl (jA tf)))] := hD
              refine ji_iinc (k := 1) (lv' := [(4, .int (jI (k + 1))), (3, .int (jI (((v * 10) + (f_XT_here tn q tw tf)) - 48))), (0, .ref ta), (1, .int (jI zl)), (2, .int (jI zm))]) hx hb dXT_number_74 hl rfl (by decide) rfl (fun ls hl => ?_)
              refine lv_goto (tgt := 22) hx hb dXT_number_77 (by decide) ?_
              exact ih22 (((v * 10) + (f_XT_here tn q tw tf)) - 48) (k + 1) (q + 1) (by omega) (Eq.trans (by rw [f_XT_number_L22_s]; rw [if_pos c26_, if_neg c36_, if_neg (Int.not_lt.mpr c41_)]; try rfl) hF) (by first | assumption | omega) (by first | assumption | omega) (by first | assumption | omega) (by first | assumption | omega) _ _ hP hD hS ls (lv_sub hl [0, 1, 2, 3, 4] rfl)
            · refine lv_iload_n hx hb dXT_number_44 rfl (lv_at hl 1 rfl) ?_
              refine ji_if_ne (tgt := 51) hx hb dXT_number_45 (by decide) (by omega) (fun c45_ => ?_) (fun c45_ => ?_)
              · refine lv_iload_n hx hb dXT_number_51 rfl (lv_at hl 1 rfl) ?_
                refine ji_bipush hx hb dXT_number_52 (by decide) ?_
                refine ji_imul hx hb dXT_number_54 ?_
                refine lv_aload_n hx hb dXT_number_55 rfl (lv_at hl 2 rfl) ?_
                refine jrVi (rest := [.int (jI (v * 10))]) ⟨hx, hb, hml, hown, hts⟩ (c_XT_here l dC dI cA ta ts tn q tw tf (by first | assumption | omega) (by first | assumption | omega) (by first | assumption | omega)) (cwV 0 hts (jG_V tw_201 tw_202 tw_203 tw_2 tw_204) rfl rfl rfl (by decide +kernel) (by rw [hR]; exact ⟨Nat.le_of_ble_eq_true rfl, Nat.le_of_ble_eq_true rfl⟩)) hK hP hN [0, 1] rfl 0 3 rfl rfl rfl rfl hl.1 rfl (Nat.le_of_ble_eq_true rfl) dXT_number_56 (by rw [hR]; exact ⟨Nat.le_of_ble_eq_true rfl, Nat.le_of_ble_eq_true rfl⟩) ?_
                have f47 := f_XT_here_b tn q tw tf (by first | assumption | omega) (by first | assumption | omega) (by first | assumption | omega)
                refine ji_iadd hx hb dXT_number_59 ?_
                refine ji_bipush hx hb dXT_number_60 (by decide) ?_
                refine ji_isub hx hb dXT_number_62 ?_
                refine lv_istore_n (lv' := [(3, .int (jI (((v * 10) + (f_XT_here tn q tw tf)) - 48))), (4, .int (jI k)), (0, .ref ta), (1, .int (jI zl)), (2, .int (jI zm))]) hx hb dXT_number_63 rfl hl (by decide) rfl (fun ls hl => ?_)
                refine lv_aload_n hx hb dXT_number_64 rfl (lv_at hl 2 rfl) ?_
                refine lv_dup hx hb dXT_number_65 rfl ?_
                refine va_get (D := (dC, dI)) (ci := 3) (v := .int (jI q)) (C := RXT) (T := TXT) (N := 4) hx hb hts (fun w h => jmem (inXT w h)) hown hK hP 0 rfl rfl 2 (by decide) (hts _ (jmem tw_32)) (fun _ h9 => h9) rfl dXT_number_66 ?_
                refine ji_iconst hx hb dXT_number_69 ?_
                refine ji_iadd hx hb dXT_number_70 ?_
                refine va_put (D := (dC, dI)) (ci := 3) (v := .int (jI (q + 1))) (ty := (.int)) (C := RXT) (T := TXT) (N := 4) hx hb hts (fun w h => jmem (inXT w h)) tyXT tyXT_ok nXT hown hK hP hD hS 0 rfl rfl 2 (by decide) (hts _ (jmem tw_32)) (fun _ h9 => h9) rfl (by decide +kernel) rfl rfl (Nat.le_of_ble_eq_true rfl) dXT_number_71 (fun H locs hP hD hS => ?_)
                have hP : va_P (dC, dI) vwCl [(ta, .inr (3, [.ref ts, .int (jI tn), .int (jI (q + 1)), .int (jI tw)])), (ts, .inl (cA, 400, .inl (jA tf)))] H := hP
                have hD : va_D A [(ta, .inr (3, [.ref ts, .int (jI tn), .int (jI (q + 1)), .int (jI tw)])), (ts, .inl (cA, 400, .inl (jA tf)))] := hD
                refine ji_iinc (k := 1) (lv' := [(4, .int (jI (k + 1))), (3, .int (jI (((v * 10) + (f_XT_here tn q tw tf)) - 48))), (0, .ref ta), (1, .int (jI zl)), (2, .int (jI zm))]) hx hb dXT_number_74 hl rfl (by decide) rfl (fun ls hl => ?_)
                refine lv_goto (tgt := 22) hx hb dXT_number_77 (by decide) ?_
                exact ih22 (((v * 10) + (f_XT_here tn q tw tf)) - 48) (k + 1) (q + 1) (by omega) (Eq.trans (by rw [f_XT_number_L22_s]; rw [if_pos c26_, if_neg c36_, if_pos c41_, if_neg c45_]; try rfl) hF) (by first | assumption | omega) (by first | assumption | omega) (by first | assumption | omega) (by first | assumption | omega) _ _ hP hD hS ls (lv_sub hl [0, 1, 2, 3, 4] rfl)
              · refine lv_goto (tgt := 80) hx hb dXT_number_48 (by decide) ?_
                refine lv_iload_n hx hb dXT_number_80 rfl (lv_at hl 1 rfl) ?_
                refine lv_iload_n hx hb dXT_number_81 rfl (lv_at hl 3 rfl) ?_
                refine ji_icmp_lt (tgt := 90) hx hb dXT_number_82 (by decide) (by omega) (by omega) (fun c82_48 => ?_) (fun c82_48 => ?_)
                · refine lv_aload_n hx hb dXT_number_90 rfl (lv_at hl 2 rfl) ?_
                  refine jwVi (rest := []) (wr := []) ⟨hx, hb, hml, hown, hts⟩ (c_XT_refuseLast l dC dI cA _ ta ts tn q tw tf) (cwV 0 hts (jG_V tw_205 tw_175 tw_176 tw_2 tw_177) rfl rfl rfl (by decide +kernel) (by rw [hR]; exact ⟨Nat.le_of_ble_eq_true rfl, Nat.le_of_ble_eq_true rfl⟩)) hK hP hD hS hA hN [0, 1] [] rfl rfl (by decide) (by decide) (by decide) 0 3 rfl rfl rfl rfl hl.1 rfl (Nat.le_of_ble_eq_true rfl) dXT_number_91 (by rw [hR]; exact ⟨Nat.le_of_ble_eq_true rfl, Nat.le_of_ble_eq_true rfl⟩) (fun v52 u51 H locs hwb53 hP hD hS => ?_)
                  obtain ⟨r49, tw1'50⟩ := u51
                  try dsimp only at hwb53
                  obtain ⟨er, hwb53⟩ := hwb53
                  subst er
                  have hP : va_P (dC, dI) vwCl [(ta, .inr (3, [.ref ts, .int (jI tn), .int (jI q), .int (jI tw1'50)])), (ts, .inl (cA, 400, .inl (jA tf)))] H := hP
                  have hD : va_D A [(ta, .inr (3, [.ref ts, .int (jI tn), .int (jI q), .int (jI tw1'50)])), (ts, .inl (cA, 400, .inl (jA tf)))] := hD
                  have f54 := f_XT_refuseLast_b tn q tw tf
                  rw [← hwb53] at f54; try dsimp only at f54
                  refine lv_pop hx hb dXT_number_94 rfl ?_
                  refine ji_iconst hx hb dXT_number_95 ?_
                  have hP9 := hP.sub (ws' := [(ta, .inr (3, [.ref ts, .int (jI tn), .int (jI q), .int (jI tw1'50)])), (ts, .inl (cA, 400, .inl (jA tf)))]) [0, 1] rfl
                  have hD9 := hD.sub (ws' := [(ta, .inr (3, [.ref ts, .int (jI tn), .int (jI q), .int (jI tw1'50)])), (ts, .inl (cA, 400, .inl (jA tf)))]) [0, 1] (by decide) rfl
                  subst hAe
                  subst hQ
                  exact W.iret (v := jI (-1)) hx hb hr (fun t ht hW => ⟨⟨_, (-1, q, tw1'50), rfl, ⟨rfl, Eq.trans (by rw [f_XT_number_L22_s]; rw [if_pos c26_, if_neg c36_, if_pos c41_, if_pos c45_, if_pos c82_48]; rw [← hwb53]; try dsimp only; try rfl) hF⟩, ⟨by rw [ht]; exact hP9, va_K.moved hW.alike hK, hD9⟩⟩, hS.F ht⟩) hS.2.2 dXT_number_96
                · refine lv_iload_n hx hb dXT_number_85 rfl (lv_at hl 1 rfl) ?_
                  refine lv_iload_n hx hb dXT_number_86 rfl (lv_at hl 4 rfl) ?_
                  refine ji_icmp_le (tgt := 97) hx hb dXT_number_87 (by decide) (by omega) (by omega) (fun c87_55 => ?_) (fun c87_55 => ?_)
                  · refine lv_aload_n hx hb dXT_number_97 rfl (lv_at hl 2 rfl) ?_
                    refine jrVi (rest := []) ⟨hx, hb, hml, hown, hts⟩ (c_XT_here l dC dI cA ta ts tn q tw tf (by first | assumption | omega) (by first | assumption | omega) (by first | assumption | omega)) (cwV 0 hts (jG_V tw_201 tw_202 tw_203 tw_2 tw_204) rfl rfl rfl (by decide +kernel) (by rw [hR]; exact ⟨Nat.le_of_ble_eq_true rfl, Nat.le_of_ble_eq_true rfl⟩)) hK hP hN [0, 1] rfl 0 3 rfl rfl rfl rfl hl.1 rfl (Nat.le_of_ble_eq_true rfl) dXT_number_98 (by rw [hR]; exact ⟨Nat.le_of_ble_eq_true rfl, Nat.le_of_ble_eq_true rfl⟩) ?_
                    have f56 := f_XT_here_b tn q tw tf (by first | assumption | omega) (by first | assumption | omega) (by first | assumption | omega)
                    refine jrNi (rest := []) ⟨hx, hb, hml, hown, hts⟩ (c_XG_isDigit l dC dI cA (f_XT_here tn q tw tf) (by first | assumption | omega)) ⟨va_cnB 1 hts (jG (jG_c tw_200)) rfl rfl rfl (jN.n198 hN) (hts _ (jmem tw_1)) (by decide +kernel) (by rw [hR]; exact ⟨Nat.le_of_ble_eq_true rfl, Nat.le_of_ble_eq_true rfl⟩), hts _ (jmem tw_199), trivial⟩ hK hP hN [] rfl rfl hl.1 rfl (Nat.le_of_ble_eq_true rfl) dXT_number_101 (by rw [hR]; exact ⟨Nat.le_of_ble_eq_true rfl, Nat.le_of_ble_eq_true rfl⟩) ?_
                    have f57 := f_XG_isDigit_01 (f_XT_here tn q tw tf) (by first | assumption | omega)
                    refine ji_if_eq (tgt := 114) hx hb dXT_number_104 (by decide) (by omega) (fun c104_58 => ?_) (fun c104_58 => ?_)
                    · refine lv_iload_n hx hb dXT_number_114 rfl (lv_at hl 1 rfl) ?_
                      have hP9 := hP.sub (ws' := [(ta, .inr (3, [.ref ts, .int (jI tn), .int (jI q), .int (jI tw)])), (ts, .inl (cA, 400, .inl (jA tf)))]) [0, 1] rfl
                      have hD9 := hD.sub (ws' := [(ta, .inr (3, [.ref ts, .int (jI tn), .int (jI q), .int (jI tw)])), (ts, .inl (cA, 400, .inl (jA tf)))]) [0, 1] (by decide) rfl
                      subst hAe
                      subst hQ
                      exact W.iret (v := jI v) hx hb hr (fun t ht hW => ⟨⟨_, (v, q, tw), rfl, ⟨rfl, Eq.trans (by rw [f_XT_number_L22_s]; rw [if_pos c26_, if_neg c36_, if_pos c41_, if_pos c45_, if_neg (Int.not_lt.mpr c82_48), if_neg (Int.not_lt.mpr c87_55), if_pos c104_58]; try rfl) hF⟩, ⟨by rw [ht]; exact hP9, va_K.moved hW.alike hK, hD9⟩⟩, hS.F ht⟩) hS.2.2 dXT_number_115
                    · refine lv_aload_n hx hb dXT_number_107 rfl (lv_at hl 2 rfl) ?_
                      refine jwVi (rest := []) (wr := []) ⟨hx, hb, hml, hown, hts⟩ (c_XT_refuse l dC dI cA _ ta ts tn q tw tf) (cwV 0 hts (jG_V tw_163 tw_164 tw_165 tw_2 tw_166) rfl rfl rfl (by decide +kernel) (by rw [hR]; exact ⟨Nat.le_of_ble_eq_true rfl, Nat.le_of_ble_eq_true rfl⟩)) hK hP hD hS hA hN [0, 1] [] rfl rfl (by decide) (by decide) (by decide) 0 3 rfl rfl rfl rfl hl.1 rfl (Nat.le_of_ble_eq_true rfl) dXT_number_108 (by rw [hR]; exact ⟨Nat.le_of_ble_eq_true rfl, Nat.le_of_ble_eq_true rfl⟩) (fun v62 u61 H locs hwb63 hP hD hS => ?_)
                      obtain ⟨r59, tw1'60⟩ := u61
                      try dsimp only at hwb63
                      obtain ⟨er, hwb63⟩ := hwb63
                      subst er
                      have hP : va_P (dC, dI) vwCl [(ta, .inr (3, [.ref ts, .int (jI tn), .int (jI q), .int (jI tw1'60)])), (ts, .inl (cA, 400, .inl (jA tf)))] H := hP
                      have hD : va_D A [(ta, .inr (3, [.ref ts, .int (jI tn), .int (jI q), .int (jI tw1'60)])), (ts, .inl (cA, 400, .inl (jA tf)))] := hD
                      have f64 := f_XT_refuse_b tn q tw tf
                      rw [← hwb63] at f64; try dsimp only at f64
                      refine lv_pop hx hb dXT_number_111 rfl ?_
                      refine ji_iconst hx hb dXT_number_112 ?_
                      have hP9 := hP.sub (ws' := [(ta, .inr (3, [.ref ts, .int (jI tn), .int (jI q), .int (jI tw1'60)])), (ts, .inl (cA, 400, .inl (jA tf)))]) [0, 1] rfl
                      have hD9 := hD.sub (ws' := [(ta, .inr (3, [.ref ts, .int (jI tn), .int (jI q), .int (jI tw1'60)])), (ts, .inl (cA, 400, .inl (jA tf)))]) [0, 1] (by decide) rfl
                      subst hAe
                      subst hQ
                      exact W.iret (v := jI (-1)) hx hb hr (fun t ht hW => ⟨⟨_, (-1, q, tw1'60), rfl, ⟨rfl, Eq.trans (by rw [f_XT_number_L22_s]; rw [if_pos c26_, if_neg c36_, if_pos c41_, if_pos c45_, if_neg (Int.not_lt.mpr c82_48), if_neg (Int.not_lt.mpr c87_55), if_neg c104_58]; rw [← hwb63]; try dsimp only; try rfl) hF⟩, ⟨by rw [ht]; exact hP9, va_K.moved hW.alike hK, hD9⟩⟩, hS.F ht⟩) hS.2.2 dXT_number_113
                  · refine lv_aload_n hx hb dXT_number_90 rfl (lv_at hl 2 rfl) ?_
                    refine jwVi (rest := []) (wr := []) ⟨hx, hb, hml, hown, hts⟩ (c_XT_refuseLast l dC dI cA _ ta ts tn q tw tf) (cwV 0 hts (jG_V tw_205 tw_175 tw_176 tw_2 tw_177) rfl rfl rfl (by decide +kernel) (by rw [hR]; exact ⟨Nat.le_of_ble_eq_true rfl, Nat.le_of_ble_eq_true rfl⟩)) hK hP hD hS hA hN [0, 1] [] rfl rfl (by decide) (by decide) (by decide) 0 3 rfl rfl rfl rfl hl.1 rfl (Nat.le_of_ble_eq_true rfl) dXT_number_91 (by rw [hR]; exact ⟨Nat.le_of_ble_eq_true rfl, Nat.le_of_ble_eq_true rfl⟩) (fun v68 u67 H locs hwb69 hP hD hS => ?_)
                    obtain ⟨r65, tw1'66⟩ := u67
                    try dsimp only at hwb69
                    obtain ⟨er, hwb69⟩ := hwb69
                    subst er
                    have hP : va_P (dC, dI) vwCl [(ta, .inr (3, [.ref ts, .int (jI tn), .int (jI q), .int (jI tw1'66)])), (ts, .inl (cA, 400, .inl (jA tf)))] H := hP
                    have hD : va_D A [(ta, .inr (3, [.ref ts, .int (jI tn), .int (jI q), .int (jI tw1'66)])), (ts, .inl (cA, 400, .inl (jA tf)))] := hD
                    have f70 := f_XT_refuseLast_b tn q tw tf
                    rw [← hwb69] at f70; try dsimp only at f70
                    refine lv_pop hx hb dXT_number_94 rfl ?_
                    refine ji_iconst hx hb dXT_number_95 ?_
                    have hP9 := hP.sub (ws' := [(ta, .inr (3, [.ref ts, .int (jI tn), .int (jI q), .int (jI tw1'66)])), (ts, .inl (cA, 400, .inl (jA tf)))]) [0, 1] rfl
                    have hD9 := hD.sub (ws' := [(ta, .inr (3, [.ref ts, .int (jI tn), .int (jI q), .int (jI tw1'66)])), (ts, .inl (cA, 400, .inl (jA tf)))]) [0, 1] (by decide) rfl
                    subst hAe
                    subst hQ
                    exact W.iret (v := jI (-1)) hx hb hr (fun t ht hW => ⟨⟨_, (-1, q, tw1'66), rfl, ⟨rfl, Eq.trans (by rw [f_XT_number_L22_s]; rw [if_pos c26_, if_neg c36_, if_pos c41_, if_pos c45_, if_neg (Int.not_lt.mpr c82_48), if_pos c87_55]; rw [← hwb69]; try dsimp only; try rfl) hF⟩, ⟨by rw [ht]; exact hP9, va_K.moved hW.alike hK, hD9⟩⟩, hS.F ht⟩) hS.2.2 dXT_number_96
    exact loop22 (Int.toNat (6 - 0) + 1) 0 0 tp1' (by omega) (Eq.trans (by rw [f_XT_number_s]; rw [← hwb]; try dsimp only; rw [if_neg c7_]; try rfl) rfl) (by first | assumption | omega) (by first | assumption | omega) (by first | assumption | omega) (by first | assumption | omega) _ _ hP hD hS ls (lv_sub hl [0, 1, 2, 3, 4] rfl)
  · refine lv_aload_n hx hb dXT_number_10 rfl (lv_at hl 0 rfl) ?_
    refine jwVi (rest := []) (wr := []) ⟨hx, hb, hml, hown, hts⟩ (c_XT_refuse l dC dI cA _ ta ts tn tp1' tw tf) (cwV 0 hts (jG_V tw_163 tw_164 tw_165 tw_2 tw_166) rfl rfl rfl (by decide +kernel) (by rw [hR]; exact ⟨Nat.le_of_ble_eq_true rfl, Nat.le_of_ble_eq_true rfl⟩)) hK hP hD hS hA hN [0, 1] [] rfl rfl (by decide) (by decide) (by decide) 0 3 rfl rfl rfl rfl hl.1 rfl (Nat.le_of_ble_eq_true rfl) dXT_number_11 (by rw [hR]; exact ⟨Nat.le_of_ble_eq_true rfl, Nat.le_of_ble_eq_true rfl⟩) (fun v74 u73 H locs hwb75 hP hD hS => ?_)
    obtain ⟨r71, tw1'72⟩ := u73
    try dsimp only at hwb75
    obtain ⟨er, hwb75⟩ := hwb75
    subst er
    have hP : va_P (dC, dI) vwCl [(ta, .inr (3, [.ref ts, .int (jI tn), .int (jI tp1'), .int (jI tw1'72)])), (ts, .inl (cA, 400, .inl (jA tf)))] H := hP
    have hD : va_D A [(ta, .inr (3, [.ref ts, .int (jI tn), .int (jI tp1'), .int (jI tw1'72)])), (ts, .inl (cA, 400, .inl (jA tf)))] := hD
    have f76 := f_XT_refuse_b tn tp1' tw tf
    rw [← hwb75] at f76; try dsimp only at f76
    refine lv_pop hx hb dXT_number_14 rfl ?_
    refine ji_iconst hx hb dXT_number_15 ?_
    have hP9 := hP.sub (ws' := [(ta, .inr (3, [.ref ts, .int (jI tn), .int (jI tp1'), .int (jI tw1'72)])), (ts, .inl (cA, 400, .inl (jA tf)))]) [0, 1] rfl
    have hD9 := hD.sub (ws' := [(ta, .inr (3, [.ref ts, .int (jI tn), .int (jI tp1'), .int (jI tw1'72)])), (ts, .inl (cA, 400, .inl (jA tf)))]) [0, 1] (by decide) rfl
    subst hAe
    subst hQ
    exact W.iret (v := jI (-1)) hx hb hr (fun t ht hW => ⟨⟨_, (-1, tp1', tw1'72), rfl, ⟨rfl, Eq.trans (by rw [f_XT_number_s]; rw [← hwb]; try dsimp only; rw [if_pos c7_]; rw [← hwb75]; try dsimp only; try rfl) rfl⟩, ⟨by rw [ht]; exact hP9, va_K.moved hW.alike hK, hD9⟩⟩, hS.F ht⟩) hS.2.2 dXT_number_16
end
section
noncomputable def g_XT_append_L5 (tn : Int) (tp : Int) (tw : Int) (tf : Int → Int) (zb : Int) (zn : Int) : Nat → Int → Int → (Int → Int) → Int × Int × (Int → Int)
  | 0, _, _, _ => (0, 0, fun _ => 0)
  | n9 + 1, k, q, fa =>
    if k < 0 then
      (q, q, fa)
    else
      if q < 400 then
        g_XT_append_L5 tn tp tw tf zb zn n9 (k + (-1)) (q + 1) (jset fa q ((jushr zb (8 * k)) % 256))
      else
        (q, q, fa)
noncomputable def f_XT_append_L5 : Int → Int → Int → (Int → Int) → Int → Int → Nat → Int → Int → (Int → Int) → Int × Int × (Int → Int) := jopq g_XT_append_L5
theorem f_XT_append_L5_q : f_XT_append_L5 = g_XT_append_L5 := jopq_eq _
theorem f_XT_append_L5_s (tn : Int) (tp : Int) (tw : Int) (tf : Int → Int) (zb : Int) (zn : Int) (n9 : Nat) (k : Int) (q : Int) (fa : Int → Int) : f_XT_append_L5 tn tp tw tf zb zn (n9 + 1) k q fa = (
    if k < 0 then
      (q, q, fa)
    else
      if q < 400 then
        f_XT_append_L5 tn tp tw tf zb zn n9 (k + (-1)) (q + 1) (jset fa q ((jushr zb (8 * k)) % 256))
      else
        (q, q, fa)
  ) := by rw [f_XT_append_L5_q]; rfl
theorem f_XT_append_L5_z (tn : Int) (tp : Int) (tw : Int) (tf : Int → Int) (zb : Int) (zn : Int) (k : Int) (q : Int) (fa : Int → Int) : f_XT_append_L5 tn tp tw tf zb zn 0 k q fa = (0, 0, fun _ => 0) := by rw [f_XT_append_L5_q]; rfl
noncomputable def g_XT_append (tn : Int) (tp : Int) (tw : Int) (tf : Int → Int) (zb : Int) (zn : Int) : Int × Int × (Int → Int) :=
  f_XT_append_L5 tn tp tw tf zb zn (Int.toNat ((zn - 1) + 1) + 1) (zn - 1) tn tf
noncomputable def f_XT_append : Int → Int → Int → (Int → Int) → Int → Int → Int × Int × (Int → Int) := jopq g_XT_append
theorem f_XT_append_q : f_XT_append = g_XT_append := jopq_eq _
theorem f_XT_append_s (tn : Int) (tp : Int) (tw : Int) (tf : Int → Int) (zb : Int) (zn : Int) : f_XT_append tn tp tw tf zb zn = (
    f_XT_append_L5 tn tp tw tf zb zn (Int.toNat ((zn - 1) + 1) + 1) (zn - 1) tn tf
  ) := by rw [f_XT_append_q]; rfl
theorem f_XT_append_L_b (tn tp tw : Int) (tf : Int → Int) (zb zn : Int) : ∀ (n : Nat) (k q : Int) (fa : Int → Int), k + 1 < (n : Int) → -1 ≤ k → 0 ≤ q → q ≤ 400 → (∀ i, 0 ≤ fa i ∧ fa i < 256) → ((f_XT_append_L5 tn tp tw tf zb zn n k q fa).1 = (f_XT_append_L5 tn tp tw tf zb zn n k q fa).2.1 ∧ 0 ≤ (f_XT_append_L5 tn tp tw tf zb zn n k q fa).2.1 ∧ (f_XT_append_L5 tn tp tw tf zb zn n k q fa).2.1 ≤ 400 ∧ (q + k + 1 ≤ 400 → (f_XT_append_L5 tn tp tw tf zb zn n k q fa).2.1 = q + k + 1)) ∧ ∀ i, 0 ≤ (f_XT_append_L5 tn tp tw tf zb zn n k q fa).2.2 i ∧ (f_XT_append_L5 tn tp tw tf zb zn n k q fa).2.2 i < 256 := by
  intro n
  induction n with
  | zero => intro k q fa h; omega
  | succ n ih =>
    intro k q fa h h1 h2 h3 hf
    rw [f_XT_append_L5_s]
    split
    · exact ⟨by dsimp only; omega, hf⟩
    · split
      · have h9 := ih (k + (-1)) (q + 1) (jset fa q ((jushr zb (8 * k)) % 256)) (by omega) (by omega) (by omega) (by omega) (fun i => by
          unfold jset; split
          · have := Int.emod_nonneg (jushr zb (8 * k)) (show (256 : Int) ≠ 0 by decide)
            have := Int.emod_lt_of_pos (jushr zb (8 * k)) (show (0 : Int) < 256 by decide)
            omega
          · exact hf i)
        exact ⟨by omega, h9.2⟩
      · exact ⟨by dsimp only; omega, hf⟩
theorem f_XT_append_b (tn tp tw : Int) (tf : Int → Int) (zb zn : Int) (hn : 0 ≤ tn ∧ tn ≤ 400) (hf : ∀ i, 0 ≤ tf i ∧ tf i < 256) (hz : 1 ≤ zn ∧ zn ≤ 8) : (f_XT_append tn tp tw tf zb zn).1 = (f_XT_append tn tp tw tf zb zn).2.1 ∧ 0 ≤ (f_XT_append tn tp tw tf zb zn).2.1 ∧ (f_XT_append tn tp tw tf zb zn).2.1 ≤ 400 ∧ (tn + zn ≤ 400 → (f_XT_append tn tp tw tf zb zn).2.1 = tn + zn) := by
  have h := (f_XT_append_L_b tn tp tw tf zb zn (Int.toNat (zn - 1 + 1) + 1) (zn - 1) tn tf (by omega) (by omega) (by omega) (by omega) hf).1
  rw [f_XT_append_s]
  omega
theorem f_XT_append_f (tn tp tw : Int) (tf : Int → Int) (zb zn : Int) (hn : 0 ≤ tn ∧ tn ≤ 400) (hf : ∀ i, 0 ≤ tf i ∧ tf i < 256) (hz : 1 ≤ zn ∧ zn ≤ 8) : ∀ i, 0 ≤ (f_XT_append tn tp tw tf zb zn).2.2 i ∧ (f_XT_append tn tp tw tf zb zn).2.2 i < 256 := by rw [f_XT_append_s]; exact (f_XT_append_L_b tn tp tw tf zb zn (Int.toNat (zn - 1 + 1) + 1) (zn - 1) tn tf (by omega) (by omega) (by omega) (by omega) hf).2
set_option maxHeartbeats 4000000 in
set_option maxRecDepth 100000 in
theorem c_XT_append (l : Launch) (dC : Nat → ClassId) (dI : Nat → Nat → Nat) (cA : ClassId) (sz : Nat) (ta : Nat) (ts : Nat) (tn : Int) (tp : Int) (tw : Int) (tf : Int → Int) (zb : Int) (zn : Int) (hn : 0 ≤ tn ∧ tn ≤ 400) (hf : ∀ i, 0 ≤ tf i ∧ tf i < 256) (hz : 1 ≤ zn ∧ zn ≤ 8) : Met l yXT_append (Cond.code yXT_append cXT_append 5 (some .int) :: TBL) ({ frames := 0, cells := 0, slots := 0, locals := 0 } : Room) (va_Pc [.ref ta, .long (jL zb), .int (jI zn)] (jBw (dC, dI) [(cA, .int)] [(ta, .inr (3, [.ref ts, .int (jI tn), .int (jI tp), .int (jI tw)])), (ts, .inl (cA, 400, .inl (jA tf)))] sz)) (va_Qi (fun (r : Int32) (u : Int × Int × (Int → Int)) => r = jI u.1 ∧ u = f_XT_append tn tp tw tf zb zn) (fun u t => jE (dC, dI) [(cA, .int)] [(ta, .inr (3, [.ref ts, .int (jI tn), .int (jI tp), .int (jI tw)])), (ts, .inl (cA, 400, .inl (jA tf)))] sz [(ta, .inr (3, [.ref ts, .int (jI u.2.1), .int (jI tp), .int (jI tw)])), (ts, .inl (cA, 400, .inl (jA u.2.2)))] t) (va_A [(ta, .inr (3, [.ref ts, .int (jI tn), .int (jI tp), .int (jI tw)])), (ts, .inl (cA, 400, .inl (jA tf)))] sz)) 0 0 (va_A [(ta, .inr (3, [.ref ts, .int (jI tn), .int (jI tp), .int (jI tw)])), (ts, .inl (cA, 400, .inl (jA tf)))] sz) := by
  refine jMet (cc := cXT_append) (maxL := 5) (ret := some .int) (by decide) rfl ?_
  intro p e s m args below meth c s₁ R Q hR hQ B hml hv
  obtain ⟨rfl, hsz, hP, hK, hD0, hN⟩ := hv
  have hx := B.exec
  have hb := B.bytes
  have hr := B.returns
  have hts := atoms_spec (ws := Cond.code yXT_append cXT_append 5 (some .int) :: TBL) B.pre
  have hown : s.vm.findClass RXT = some m.cls := findClass_of_methodNamed B.named
  have hlocks := B.notSynchronized
  subst hsz
  obtain ⟨A, hAe⟩ : ∃ A, A = va_A [(ta, .inr (3, [.ref ts, .int (jI tn), .int (jI tp), .int (jI tw)])), (ts, .inl (cA, 400, .inl (jA tf)))] s.heap.size := ⟨_, rfl⟩
  have hD : va_D A [(ta, .inr (3, [.ref ts, .int (jI tn), .int (jI tp), .int (jI tw)])), (ts, .inl (cA, 400, .inl (jA tf)))] := by rw [hAe]; exact hD0.self
  have hA : ∀ q : Nat, s.heap.size ≤ q → A q := fun q h => by rw [hAe]; exact Or.inr h
  have hS : va_S A s.heap s.heap [] := va_S.rf
  have hP : va_P (dC, dI) vwCl [(ta, .inr (3, [.ref ts, .int (jI tn), .int (jI tp), .int (jI tw)])), (ts, .inl (cA, 400, .inl (jA tf)))] s.heap := hP
  have hl := lv_entry ([.ref ta, .long (jL zb), .int (jI zn)]) (n := 5) (Nat.le_of_ble_eq_true rfl)
  rw [lg_entry_eq]
  generalize (lg_sl ([.ref ta, .long (jL zb), .int (jI zn)]) ++ List.replicate (5 - (lg_sl ([.ref ta, .long (jL zb), .int (jI zn)])).length) Slot.unset).toArray = ls at hl ⊢
  have hl : lv_has ls 5 [(0, .ref ta), (1, .long (jL zb)), (3, .int (jI zn))] := hl
  refine lv_iload_n hx hb dXT_append_0 rfl (lv_at hl 2 rfl) ?_
  refine ji_iconst hx hb dXT_append_1 ?_
  refine ji_isub hx hb dXT_append_2 ?_
  refine lv_istore (lv' := [(4, .int (jI (zn - 1))), (0, .ref ta), (1, .long (jL zb)), (3, .int (jI zn))]) hx hb dXT_append_3 hl (by decide) rfl (fun ls hl => ?_)
  have loop5 : ∀ (n9 : Nat) (k : Int) (q : Int) (fa : Int → Int) , k + 1 < (n9 : Int) → f_XT_append_L5 tn tp tw tf zb zn n9 k q fa = f_XT_append tn tp tw tf zb zn → -1 ≤ k ∧ k ≤ 7 → 0 ≤ q ∧ q ≤ 400 → ∀ (H : Heap) (locs : List Loc), va_P (dC, dI) vwCl [(ta, .inr (3, [.ref ts, .int (jI q), .int (jI tp), .int (jI tw)])), (ts, .inl (cA, 400, .inl (jA fa)))] H → va_D A [(ta, .inr (3, [.ref ts, .int (jI q), .int (jI tp), .int (jI tw)])), (ts, .inl (cA, 400, .inl (jA fa)))] → va_S A s.heap H locs → ∀ ls : Array Slot, lv_has ls 5 [(4, .int (jI k)), (0, .ref ta), (1, .long (jL zb)), (3, .int (jI zn))] → W p l e R s m ([.ref ta, .long (jL zb), .int (jI zn)] : List Value).toArray below meth c H locs 0 0 Q (F0 m 5 ls []) := by
    intro n9
    induction n9 with
    | zero =>
      intro k q fa hm hF hk hq
      exact absurd hm (by omega)
    | succ n9 ih5 =>
      intro k q fa hm hF hk hq H locs hP hD hS ls hl
      refine lv_iload hx hb dXT_append_5 (lv_at hl 0 rfl) ?_
      refine ji_if_lt (tgt := 57) hx hb dXT_append_7 (by decide) (by omega) (fun c7_ => ?_) (fun c7_ => ?_)
      · refine lv_aload_n hx hb dXT_append_57 rfl (lv_at hl 1 rfl) ?_
        refine va_get (D := (dC, dI)) (ci := 3) (v := .int (jI q)) (C := RXT) (T := TXT) (N := 4) hx hb hts (fun w h => jmem (inXT w h)) hown hK hP 0 rfl rfl 1 (by decide) (hts _ (jmem tw_31)) (fun _ h9 => h9) rfl dXT_append_58 ?_
        have hP9 := hP.sub (ws' := [(ta, .inr (3, [.ref ts, .int (jI q), .int (jI tp), .int (jI tw)])), (ts, .inl (cA, 400, .inl (jA fa)))]) [0, 1] rfl
        have hD9 := hD.sub (ws' := [(ta, .inr (3, [.ref ts, .int (jI q), .int (jI tp), .int (jI tw)])), (ts, .inl (cA, 400, .inl (jA fa)))]) [0, 1] (by decide) rfl
        subst hAe
        subst hQ
        exact W.iret (v := jI q) hx hb hr (fun t ht hW => ⟨⟨_, (q, q, fa), rfl, ⟨rfl, Eq.trans (by rw [f_XT_append_L5_s]; rw [if_pos c7_]; try rfl) hF⟩, ⟨by rw [ht]; exact hP9, va_K.moved hW.alike hK, hD9⟩⟩, hS.F ht⟩) hS.2.2 dXT_append_61
      · refine lv_aload_n hx hb dXT_append_10 rfl (lv_at hl 1 rfl) ?_
        refine va_get (D := (dC, dI)) (ci := 3) (v := .int (jI q)) (C := RXT) (T := TXT) (N := 4) hx hb hts (fun w h => jmem (inXT w h)) hown hK hP 0 rfl rfl 1 (by decide) (hts _ (jmem tw_31)) (fun _ h9 => h9) rfl dXT_append_11 ?_
        refine ji_sipush hx hb dXT_append_14 (by decide) ?_
        refine ji_icmp_ge (tgt := 57) hx hb dXT_append_17 (by decide) (by omega) (by omega) (fun c17_ => ?_) (fun c17_ => ?_)
        · refine lv_aload_n hx hb dXT_append_57 rfl (lv_at hl 1 rfl) ?_
          refine va_get (D := (dC, dI)) (ci := 3) (v := .int (jI q)) (C := RXT) (T := TXT) (N := 4) hx hb hts (fun w h => jmem (inXT w h)) hown hK hP 0 rfl rfl 1 (by decide) (hts _ (jmem tw_31)) (fun _ h9 => h9) rfl dXT_append_58 ?_
          have hP9 := hP.sub (ws' := [(ta, .inr (3, [.ref ts, .int (jI q), .int (jI tp), .int (jI tw)])), (ts, .inl (cA, 400, .inl (jA fa)))]) [0, 1] rfl
          have hD9 := hD.sub (ws' := [(ta, .inr (3, [.ref ts, .int (jI q), .int (jI tp), .int (jI tw)])), (ts, .inl (cA, 400, .inl (jA fa)))]) [0, 1] (by decide) rfl
          subst hAe
          subst hQ
          exact W.iret (v := jI q) hx hb hr (fun t ht hW => ⟨⟨_, (q, q, fa), rfl, ⟨rfl, Eq.trans (by rw [f_XT_append_L5_s]; rw [if_neg (Int.not_lt.mpr c7_), if_neg (Int.not_lt.mpr c17_)]; try rfl) hF⟩, ⟨by rw [ht]; exact hP9, va_K.moved hW.alike hK, hD9⟩⟩, hS.F ht⟩) hS.2.2 dXT_append_61
        · refine lv_aload_n hx hb dXT_append_20 rfl (lv_at hl 1 rfl) ?_
          refine va_get (D := (dC, dI)) (ci := 3) (v := .ref ts) (C := RXT) (T := TXT) (N := 4) hx hb hts (fun w h => jmem (inXT w h)) hown hK hP 0 rfl rfl 0 (by decide) (hts _ (jmem tw_30)) (fun _ h9 => h9) rfl dXT_append_21 ?_
          refine lv_aload_n hx hb dXT_append_24 rfl (lv_at hl 1 rfl) ?_
          refine va_get (D := (dC, dI)) (ci := 3) (v := .int (jI q)) (C := RXT) (T := TXT) (N := 4) hx hb hts (fun w h => jmem (inXT w h)) hown hK hP 0 rfl rfl 1 (by decide) (hts _ (jmem tw_31)) (fun _ h9 => h9) rfl dXT_append_25 ?_
          refine lv_lload_n hx hb dXT_append_28 rfl (lv_at hl 2 rfl) ?_
          refine ji_bipush hx hb dXT_append_29 (by decide) ?_
          refine lv_iload hx hb dXT_append_31 (lv_at hl 0 rfl) ?_
          refine ji_imul hx hb dXT_append_33 ?_
          refine ji_lushr hx hb dXT_append_34 (by omega) ?_
          refine lv_ldc2 hx hb hown (hts _ (jmem tw_403)) dXT_append_35 ?_
          refine ji_rel (y := 255) (by decide) ?_
          refine ji_land255 hx hb dXT_append_38 ?_
          refine ji_l2i hx hb dXT_append_39 ?_
          refine ji_iast hx hb hK hP hD hS 1 0 rfl rfl ⟨by omega, by omega⟩ (by decide) dXT_append_40 (fun H locs hP hD hS => ?_)
          have hP : va_P (dC, dI) vwCl [(ta, .inr (3, [.ref ts, .int (jI q), .int (jI tp), .int (jI tw)])), (ts, .inl (cA, 400, .inl (jA (jset fa q ((jushr zb (8 * k)) % 256)))))] H := hP
          have hD : va_D A [(ta, .inr (3, [.ref ts, .int (jI q), .int (jI tp), .int (jI tw)])), (ts, .inl (cA, 400, .inl (jA (jset fa q ((jushr zb (8 * k)) % 256)))))] := hD
          refine lv_aload_n hx hb dXT_append_41 rfl (lv_at hl 1 rfl) ?_
          refine lv_dup hx hb dXT_append_42 rfl ?_
          refine va_get (D := (dC, dI)) (ci := 3) (v := .int (jI q)) (C := RXT) (T := TXT) (N := 4) hx hb hts (fun w h => jmem (inXT w h)) hown hK hP 0 rfl rfl 1 (by decide) (hts _ (jmem tw_31)) (fun _ h9 => h9) rfl dXT_append_43 ?_
          refine ji_iconst hx hb dXT_append_46 ?_
          refine ji_iadd hx hb dXT_append_47 ?_
          refine va_put (D := (dC, dI)) (ci := 3) (v := .int (jI (q + 1))) (ty := (.int)) (C := RXT) (T := TXT) (N := 4) hx hb hts (fun w h => jmem (inXT w h)) tyXT tyXT_ok nXT hown hK hP hD hS 0 rfl rfl 1 (by decide) (hts _ (jmem tw_31)) (fun _ h9 => h9) rfl (by decide +kernel) rfl rfl (Nat.le_of_ble_eq_true rfl) dXT_append_48 (fun H locs hP hD hS => ?_)
          have hP : va_P (dC, dI) vwCl [(ta, .inr (3, [.ref ts, .int (jI (q + 1)), .int (jI tp), .int (jI tw)])), (ts, .inl (cA, 400, .inl (jA (jset fa q ((jushr zb (8 * k)) % 256)))))] H := hP
          have hD : va_D A [(ta, .inr (3, [.ref ts, .int (jI (q + 1)), .int (jI tp), .int (jI tw)])), (ts, .inl (cA, 400, .inl (jA (jset fa q ((jushr zb (8 * k)) % 256)))))] := hD
          refine ji_iinc (k := 0) (lv' := [(4, .int (jI (k + (-1)))), (0, .ref ta), (1, .long (jL zb)), (3, .int (jI zn))]) hx hb dXT_append_51 hl rfl (by decide) rfl (fun ls hl => ?_)
          refine lv_goto (tgt := 5) hx hb dXT_append_54 (by decide) ?_
          exact ih5 (k + (-1)) (q + 1) (jset fa q ((jushr zb (8 * k)) % 256)) (by omega) (Eq.trans (by rw [f_XT_append_L5_s]; rw [if_neg (Int.not_lt.mpr c7_), if_pos c17_]; try rfl) hF) (by first | assumption | omega) (by first | assumption | omega) _ _ hP hD hS ls (lv_sub hl [0, 1, 2, 3] rfl)
  exact loop5 (Int.toNat ((zn - 1) + 1) + 1) (zn - 1) tn tf (by omega) (Eq.trans (by rw [f_XT_append_s]; try rfl) rfl) (by first | assumption | omega) (by first | assumption | omega) _ _ hP hD hS ls (lv_sub hl [0, 1, 2, 3] rfl)
end
section
noncomputable def g_XA_fill8_L5 (fw : Int → Int) (zv : Int) : Nat → Int → (Int → Int) → (Int → Int)
  | 0, _, _ => fun _ => 0
  | n9 + 1, k, fa =>
    if k < 8 then
      g_XA_fill8_L5 fw zv n9 (k + 1) (jset fa k zv)
    else
      fa
noncomputable def f_XA_fill8_L5 : (Int → Int) → Int → Nat → Int → (Int → Int) → (Int → Int) := jopq g_XA_fill8_L5
theorem f_XA_fill8_L5_q : f_XA_fill8_L5 = g_XA_fill8_L5 := jopq_eq _
theorem f_XA_fill8_L5_s (fw : Int → Int) (zv : Int) (n9 : Nat) (k : Int) (fa : Int → Int) : f_XA_fill8_L5 fw zv (n9 + 1) k fa = (
    if k < 8 then
      f_XA_fill8_L5 fw zv n9 (k + 1) (jset fa k zv)
    else
      fa
  ) := by rw [f_XA_fill8_L5_q]; rfl
theorem f_XA_fill8_L5_z (fw : Int → Int) (zv : Int) (k : Int) (fa : Int → Int) : f_XA_fill8_L5 fw zv 0 k fa = fun _ => 0 := by rw [f_XA_fill8_L5_q]; rfl
noncomputable def g_XA_fill8 (fw : Int → Int) (zv : Int) : (Int → Int) :=
  f_XA_fill8_L5 fw zv (Int.toNat (8 - 0) + 1) 0 fw
noncomputable def f_XA_fill8 : (Int → Int) → Int → (Int → Int) := jopq g_XA_fill8
theorem f_XA_fill8_q : f_XA_fill8 = g_XA_fill8 := jopq_eq _
theorem f_XA_fill8_s (fw : Int → Int) (zv : Int) : f_XA_fill8 fw zv = (
    f_XA_fill8_L5 fw zv (Int.toNat (8 - 0) + 1) 0 fw
  ) := by rw [f_XA_fill8_q]; rfl
theorem f_XA_fill8_L (fw : Int → Int) (zv : Int) : ∀ (n : Nat) (k : Int) (fa : Int → Int), 8 - k < (n : Int) → 0 ≤ k → k ≤ 8 → f_XA_fill8_L5 fw zv n k fa = fun i => if k ≤ i ∧ i < 8 then zv else fa i := by
  intro n
  induction n with
  | zero => intro k fa h; omega
  | succ n ih =>
    intro k fa h h0 h1
    rw [f_XA_fill8_L5_s]
    split
    · rw [ih _ _ (by omega) (by omega) (by omega)]
      funext i
      unfold jset
      by_cases h : i = k
      · rw [if_neg (by omega), if_pos h, if_pos (by omega)]
      · by_cases h2 : k + 1 ≤ i ∧ i < 8
        · rw [if_pos h2, if_pos (by omega)]
        · rw [if_neg h2, if_neg h, if_neg (by omega)]
    · funext i
      rw [if_neg (by omega)]
theorem f_XA_fill8_eq (fw : Int → Int) (zv : Int) : f_XA_fill8 fw zv = fun i => if 0 ≤ i ∧ i < 8 then zv else fw i := by rw [f_XA_fill8_s]; exact f_XA_fill8_L fw zv _ _ _ (by omega) (by omega) (by omega)
set_option maxHeartbeats 4000000 in
set_option maxRecDepth 100000 in
theorem c_XA_fill8 (l : Launch) (dC : Nat → ClassId) (dI : Nat → Nat → Nat) (cA : ClassId) (sz : Nat) (ra : Nat) (fw : Int → Int) (zv : Int) : Met l yXA_fill (Cond.code yXA_fill cXA_fill 4 none :: TBL) ({ frames := 0, cells := 0, slots := 0, locals := 0 } : Room) (va_Pc [.ref ra, .int (jI zv)] (jBw (dC, dI) [(cA, .int)] [(ra, .inl (cA, 8, .inl (jA fw)))] sz)) (va_Qv (fun (u : (Int → Int)) => u = f_XA_fill8 fw zv) (fun u t => jE (dC, dI) [(cA, .int)] [(ra, .inl (cA, 8, .inl (jA fw)))] sz [(ra, .inl (cA, 8, .inl (jA u)))] t) (va_A [(ra, .inl (cA, 8, .inl (jA fw)))] sz)) 0 0 (va_A [(ra, .inl (cA, 8, .inl (jA fw)))] sz) := by
  refine jMet (cc := cXA_fill) (maxL := 4) (ret := none) (by decide) rfl ?_
  intro p e s m args below meth c s₁ R Q hR hQ B hml hv
  obtain ⟨rfl, hsz, hP, hK, hD0, hN⟩ := hv
  have hx := B.exec
  have hb := B.bytes
  have hr := B.returns
  have hts := atoms_spec (ws := Cond.code yXA_fill cXA_fill 4 none :: TBL) B.pre
  have hown : s.vm.findClass RXA = some m.cls := findClass_of_methodNamed B.named
  have hlocks := B.notSynchronized
  subst hsz
  obtain ⟨A, hAe⟩ : ∃ A, A = va_A [(ra, .inl (cA, 8, .inl (jA fw)))] s.heap.size := ⟨_, rfl⟩
  have hD : va_D A [(ra, .inl (cA, 8, .inl (jA fw)))] := by rw [hAe]; exact hD0.self
  have hA : ∀ q : Nat, s.heap.size ≤ q → A q := fun q h => by rw [hAe]; exact Or.inr h
  have hS : va_S A s.heap s.heap [] := va_S.rf
  have hP : va_P (dC, dI) vwCl [(ra, .inl (cA, 8, .inl (jA fw)))] s.heap := hP
  have hl := lv_entry ([.ref ra, .int (jI zv)]) (n := 4) (Nat.le_of_ble_eq_true rfl)
  rw [lg_entry_eq]
  generalize (lg_sl ([.ref ra, .int (jI zv)]) ++ List.replicate (4 - (lg_sl ([.ref ra, .int (jI zv)])).length) Slot.unset).toArray = ls at hl ⊢
  have hl : lv_has ls 4 [(0, .ref ra), (1, .int (jI zv))] := hl
  refine ji_iconst hx hb dXA_fill_0 ?_
  refine lv_istore_n (lv' := [(2, .int (jI 0)), (0, .ref ra), (1, .int (jI zv))]) hx hb dXA_fill_1 rfl hl (by decide) rfl (fun ls hl => ?_)
  refine lv_aload_n hx hb dXA_fill_2 rfl (lv_at hl 1 rfl) ?_
  refine ji_alen (z := 8) hx hb hK hP 0 0 rfl rfl rfl dXA_fill_3 ?_
  refine lv_istore_n (lv' := [(3, .int (jI 8)), (2, .int (jI 0)), (0, .ref ra), (1, .int (jI zv))]) hx hb dXA_fill_4 rfl hl (by decide) rfl (fun ls hl => ?_)
  have loop5 : ∀ (n9 : Nat) (k : Int) (fa : Int → Int) , 8 - k < (n9 : Int) → f_XA_fill8_L5 fw zv n9 k fa = f_XA_fill8 fw zv → 0 ≤ k ∧ k ≤ 8 → ∀ (H : Heap) (locs : List Loc), va_P (dC, dI) vwCl [(ra, .inl (cA, 8, .inl (jA fa)))] H → va_D A [(ra, .inl (cA, 8, .inl (jA fa)))] → va_S A s.heap H locs → ∀ ls : Array Slot, lv_has ls 4 [(3, .int (jI 8)), (2, .int (jI k)), (0, .ref ra), (1, .int (jI zv))] → W p l e R s m ([.ref ra, .int (jI zv)] : List Value).toArray below meth c H locs 0 0 Q (F0 m 5 ls []) := by
    intro n9
    induction n9 with
    | zero =>
      intro k fa hm hF hk
      exact absurd hm (by omega)
    | succ n9 ih5 =>
      intro k fa hm hF hk H locs hP hD hS ls hl
      refine lv_iload_n hx hb dXA_fill_5 rfl (lv_at hl 1 rfl) ?_
      refine lv_iload_n hx hb dXA_fill_6 rfl (lv_at hl 0 rfl) ?_
      refine ji_icmp_ge (tgt := 20) hx hb dXA_fill_7 (by decide) (by omega) (by omega) (fun c7_ => ?_) (fun c7_ => ?_)
      · have hP9 := hP.sub (ws' := [(ra, .inl (cA, 8, .inl (jA fa)))]) [0] rfl
        have hD9 := hD.sub (ws' := [(ra, .inl (cA, 8, .inl (jA fa)))]) [0] (by decide) rfl
        subst hAe
        subst hQ
        exact W.vret hx hb hr (fun t ht hW => ⟨⟨fa, rfl, Eq.trans (by rw [f_XA_fill8_L5_s]; rw [if_neg (Int.not_lt.mpr c7_)]; try rfl) hF, ⟨by rw [ht]; exact hP9, va_K.moved hW.alike hK, hD9⟩⟩, hS.F ht⟩) hS.2.2 dXA_fill_20
      · refine lv_aload_n hx hb dXA_fill_10 rfl (lv_at hl 2 rfl) ?_
        refine lv_iload_n hx hb dXA_fill_11 rfl (lv_at hl 1 rfl) ?_
        refine lv_iload_n hx hb dXA_fill_12 rfl (lv_at hl 3 rfl) ?_
        refine ji_iast hx hb hK hP hD hS 0 0 rfl rfl ⟨by omega, by omega⟩ (by decide) dXA_fill_13 (fun H locs hP hD hS => ?_)
        have hP : va_P (dC, dI) vwCl [(ra, .inl (cA, 8, .inl (jA (jset fa k zv))))] H := hP
        have hD : va_D A [(ra, .inl (cA, 8, .inl (jA (jset fa k zv))))] := hD
        refine ji_iinc (k := 1) (lv' := [(2, .int (jI (k + 1))), (3, .int (jI 8)), (0, .ref ra), (1, .int (jI zv))]) hx hb dXA_fill_14 hl rfl (by decide) rfl (fun ls hl => ?_)
        refine lv_goto (tgt := 5) hx hb dXA_fill_17 (by decide) ?_
        exact ih5 (k + 1) (jset fa k zv) (by omega) (Eq.trans (by rw [f_XA_fill8_L5_s]; rw [if_pos c7_]; try rfl) hF) (by first | assumption | omega) _ _ hP hD hS ls (lv_sub hl [1, 0, 2, 3] rfl)
  exact loop5 (Int.toNat (8 - 0) + 1) 0 fw (by omega) (Eq.trans (by rw [f_XA_fill8_s]; try rfl) rfl) (by first | assumption | omega) _ _ hP hD hS ls (lv_sub hl [0, 1, 2, 3] rfl)
noncomputable def g_XA_fill31_L5 (fw : Int → Int) (zv : Int) : Nat → Int → (Int → Int) → (Int → Int)
  | 0, _, _ => fun _ => 0
  | n9 + 1, k, fa =>
    if k < 31 then
      g_XA_fill31_L5 fw zv n9 (k + 1) (jset fa k zv)
    else
      fa
noncomputable def f_XA_fill31_L5 : (Int → Int) → Int → Nat → Int → (Int → Int) → (Int → Int) := jopq g_XA_fill31_L5
theorem f_XA_fill31_L5_q : f_XA_fill31_L5 = g_XA_fill31_L5 := jopq_eq _
theorem f_XA_fill31_L5_s (fw : Int → Int) (zv : Int) (n9 : Nat) (k : Int) (fa : Int → Int) : f_XA_fill31_L5 fw zv (n9 + 1) k fa = (
    if k < 31 then
      f_XA_fill31_L5 fw zv n9 (k + 1) (jset fa k zv)
    else
      fa
  ) := by rw [f_XA_fill31_L5_q]; rfl
theorem f_XA_fill31_L5_z (fw : Int → Int) (zv : Int) (k : Int) (fa : Int → Int) : f_XA_fill31_L5 fw zv 0 k fa = fun _ => 0 := by rw [f_XA_fill31_L5_q]; rfl
noncomputable def g_XA_fill31 (fw : Int → Int) (zv : Int) : (Int → Int) :=
  f_XA_fill31_L5 fw zv (Int.toNat (31 - 0) + 1) 0 fw
noncomputable def f_XA_fill31 : (Int → Int) → Int → (Int → Int) := jopq g_XA_fill31
theorem f_XA_fill31_q : f_XA_fill31 = g_XA_fill31 := jopq_eq _
theorem f_XA_fill31_s (fw : Int → Int) (zv : Int) : f_XA_fill31 fw zv = (
    f_XA_fill31_L5 fw zv (Int.toNat (31 - 0) + 1) 0 fw
  ) := by rw [f_XA_fill31_q]; rfl
theorem f_XA_fill31_L (fw : Int → Int) (zv : Int) : ∀ (n : Nat) (k : Int) (fa : Int → Int), 31 - k < (n : Int) → 0 ≤ k → k ≤ 31 → f_XA_fill31_L5 fw zv n k fa = fun i => if k ≤ i ∧ i < 31 then zv else fa i := by
  intro n
  induction n with
  | zero => intro k fa h; omega
  | succ n ih =>
    intro k fa h h0 h1
    rw [f_XA_fill31_L5_s]
    split
    · rw [ih _ _ (by omega) (by omega) (by omega)]
      funext i
      unfold jset
      by_cases h : i = k
      · rw [if_neg (by omega), if_pos h, if_pos (by omega)]
      · by_cases h2 : k + 1 ≤ i ∧ i < 31
        · rw [if_pos h2, if_pos (by omega)]
        · rw [if_neg h2, if_neg h, if_neg (by omega)]
    · funext i
      rw [if_neg (by omega)]
theorem f_XA_fill31_eq (fw : Int → Int) (zv : Int) : f_XA_fill31 fw zv = fun i => if 0 ≤ i ∧ i < 31 then zv else fw i := by rw [f_XA_fill31_s]; exact f_XA_fill31_L fw zv _ _ _ (by omega) (by omega) (by omega)
set_option maxHeartbeats 4000000 in
set_option maxRecDepth 100000 in
theorem c_XA_fill31 (l : Launch) (dC : Nat → ClassId) (dI : Nat → Nat → Nat) (cA : ClassId) (sz : Nat) (ra : Nat) (fw : Int → Int) (zv : Int) : Met l yXA_fill (Cond.code yXA_fill cXA_fill 4 none :: TBL) ({ frames := 0, cells := 0, slots := 0, locals := 0 } : Room) (va_Pc [.ref ra, .int (jI zv)] (jBw (dC, dI) [(cA, .int)] [(ra, .inl (cA, 31, .inl (jA fw)))] sz)) (va_Qv (fun (u : (Int → Int)) => u = f_XA_fill31 fw zv) (fun u t => jE (dC, dI) [(cA, .int)] [(ra, .inl (cA, 31, .inl (jA fw)))] sz [(ra, .inl (cA, 31, .inl (jA u)))] t) (va_A [(ra, .inl (cA, 31, .inl (jA fw)))] sz)) 0 0 (va_A [(ra, .inl (cA, 31, .inl (jA fw)))] sz) := by
  refine jMet (cc := cXA_fill) (maxL := 4) (ret := none) (by decide) rfl ?_
  intro p e s m args below meth c s₁ R Q hR hQ B hml hv
  obtain ⟨rfl, hsz, hP, hK, hD0, hN⟩ := hv
  have hx := B.exec
  have hb := B.bytes
  have hr := B.returns
  have hts := atoms_spec (ws := Cond.code yXA_fill cXA_fill 4 none :: TBL) B.pre
  have hown : s.vm.findClass RXA = some m.cls := findClass_of_methodNamed B.named
  have hlocks := B.notSynchronized
  subst hsz
  obtain ⟨A, hAe⟩ : ∃ A, A = va_A [(ra, .inl (cA, 31, .inl (jA fw)))] s.heap.size := ⟨_, rfl⟩
  have hD : va_D A [(ra, .inl (cA, 31, .inl (jA fw)))] := by rw [hAe]; exact hD0.self
  have hA : ∀ q : Nat, s.heap.size ≤ q → A q := fun q h => by rw [hAe]; exact Or.inr h
  have hS : va_S A s.heap s.heap [] := va_S.rf
  have hP : va_P (dC, dI) vwCl [(ra, .inl (cA, 31, .inl (jA fw)))] s.heap := hP
  have hl := lv_entry ([.ref ra, .int (jI zv)]) (n := 4) (Nat.le_of_ble_eq_true rfl)
  rw [lg_entry_eq]
  generalize (lg_sl ([.ref ra, .int (jI zv)]) ++ List.replicate (4 - (lg_sl ([.ref ra, .int (jI zv)])).length) Slot.unset).toArray = ls at hl ⊢
  have hl : lv_has ls 4 [(0, .ref ra), (1, .int (jI zv))] := hl
  refine ji_iconst hx hb dXA_fill_0 ?_
  refine lv_istore_n (lv' := [(2, .int (jI 0)), (0, .ref ra), (1, .int (jI zv))]) hx hb dXA_fill_1 rfl hl (by decide) rfl (fun ls hl => ?_)
  refine lv_aload_n hx hb dXA_fill_2 rfl (lv_at hl 1 rfl) ?_
  refine ji_alen (z := 31) hx hb hK hP 0 0 rfl rfl rfl dXA_fill_3 ?_
  refine lv_istore_n (lv' := [(3, .int (jI 31)), (2, .int (jI 0)), (0, .ref ra), (1, .int (jI zv))]) hx hb dXA_fill_4 rfl hl (by decide) rfl (fun ls hl => ?_)
  have loop5 : ∀ (n9 : Nat) (k : Int) (fa : Int → Int) , 31 - k < (n9 : Int) → f_XA_fill31_L5 fw zv n9 k fa = f_XA_fill31 fw zv → 0 ≤ k ∧ k ≤ 31 → ∀ (H : Heap) (locs : List Loc), va_P (dC, dI) vwCl [(ra, .inl (cA, 31, .inl (jA fa)))] H → va_D A [(ra, .inl (cA, 31, .inl (jA fa)))] → va_S A s.heap H locs → ∀ ls : Array Slot, lv_has ls 4 [(3, .int (jI 31)), (2, .int (jI k)), (0, .ref ra), (1, .int (jI zv))] → W p l e R s m ([.ref ra, .int (jI zv)] : List Value).toArray below meth c H locs 0 0 Q (F0 m 5 ls []) := by
    intro n9
    induction n9 with
    | zero =>
      intro k fa hm hF hk
      exact absurd hm (by omega)
    | succ n9 ih5 =>
      intro k fa hm hF hk H locs hP hD hS ls hl
      refine lv_iload_n hx hb dXA_fill_5 rfl (lv_at hl 1 rfl) ?_
      refine lv_iload_n hx hb dXA_fill_6 rfl (lv_at hl 0 rfl) ?_
      refine ji_icmp_ge (tgt := 20) hx hb dXA_fill_7 (by decide) (by omega) (by omega) (fun c7_ => ?_) (fun c7_ => ?_)
      · have hP9 := hP.sub (ws' := [(ra, .inl (cA, 31, .inl (jA fa)))]) [0] rfl
        have hD9 := hD.sub (ws' := [(ra, .inl (cA, 31, .inl (jA fa)))]) [0] (by decide) rfl
        subst hAe
        subst hQ
        exact W.vret hx hb hr (fun t ht hW => ⟨⟨fa, rfl, Eq.trans (by rw [f_XA_fill31_L5_s]; rw [if_neg (Int.not_lt.mpr c7_)]; try rfl) hF, ⟨by rw [ht]; exact hP9, va_K.moved hW.alike hK, hD9⟩⟩, hS.F ht⟩) hS.2.2 dXA_fill_20
      · refine lv_aload_n hx hb dXA_fill_10 rfl (lv_at hl 2 rfl) ?_
        refine lv_iload_n hx hb dXA_fill_11 rfl (lv_at hl 1 rfl) ?_
        refine lv_iload_n hx hb dXA_fill_12 rfl (lv_at hl 3 rfl) ?_
        refine ji_iast hx hb hK hP hD hS 0 0 rfl rfl ⟨by omega, by omega⟩ (by decide) dXA_fill_13 (fun H locs hP hD hS => ?_)
        have hP : va_P (dC, dI) vwCl [(ra, .inl (cA, 31, .inl (jA (jset fa k zv))))] H := hP
        have hD : va_D A [(ra, .inl (cA, 31, .inl (jA (jset fa k zv))))] := hD
        refine ji_iinc (k := 1) (lv' := [(2, .int (jI (k + 1))), (3, .int (jI 31)), (0, .ref ra), (1, .int (jI zv))]) hx hb dXA_fill_14 hl rfl (by decide) rfl (fun ls hl => ?_)
        refine lv_goto (tgt := 5) hx hb dXA_fill_17 (by decide) ?_
        exact ih5 (k + 1) (jset fa k zv) (by omega) (Eq.trans (by rw [f_XA_fill31_L5_s]; rw [if_pos c7_]; try rfl) hF) (by first | assumption | omega) _ _ hP hD hS ls (lv_sub hl [1, 0, 2, 3] rfl)
  exact loop5 (Int.toNat (31 - 0) + 1) 0 fw (by omega) (Eq.trans (by rw [f_XA_fill31_s]; try rfl) rfl) (by first | assumption | omega) _ _ hP hD hS ls (lv_sub hl [0, 1, 2, 3] rfl)
noncomputable def g_XA_fill32_L5 (fw : Int → Int) (zv : Int) : Nat → Int → (Int → Int) → (Int → Int)
  | 0, _, _ => fun _ => 0
  | n9 + 1, k, fa =>
    if k < 32 then
      g_XA_fill32_L5 fw zv n9 (k + 1) (jset fa k zv)
    else
      fa
noncomputable def f_XA_fill32_L5 : (Int → Int) → Int → Nat → Int → (Int → Int) → (Int → Int) := jopq g_XA_fill32_L5
theorem f_XA_fill32_L5_q : f_XA_fill32_L5 = g_XA_fill32_L5 := jopq_eq _
theorem f_XA_fill32_L5_s (fw : Int → Int) (zv : Int) (n9 : Nat) (k : Int) (fa : Int → Int) : f_XA_fill32_L5 fw zv (n9 + 1) k fa = (
    if k < 32 then
      f_XA_fill32_L5 fw zv n9 (k + 1) (jset fa k zv)
    else
      fa
  ) := by rw [f_XA_fill32_L5_q]; rfl
theorem f_XA_fill32_L5_z (fw : Int → Int) (zv : Int) (k : Int) (fa : Int → Int) : f_XA_fill32_L5 fw zv 0 k fa = fun _ => 0 := by rw [f_XA_fill32_L5_q]; rfl
noncomputable def g_XA_fill32 (fw : Int → Int) (zv : Int) : (Int → Int) :=
  f_XA_fill32_L5 fw zv (Int.toNat (32 - 0) + 1) 0 fw
noncomputable def f_XA_fill32 : (Int → Int) → Int → (Int → Int) := jopq g_XA_fill32
theorem f_XA_fill32_q : f_XA_fill32 = g_XA_fill32 := jopq_eq _
theorem f_XA_fill32_s (fw : Int → Int) (zv : Int) : f_XA_fill32 fw zv = (
    f_XA_fill32_L5 fw zv (Int.toNat (32 - 0) + 1) 0 fw
  ) := by rw [f_XA_fill32_q]; rfl
theorem f_XA_fill32_L (fw : Int → Int) (zv : Int) : ∀ (n : Nat) (k : Int) (fa : Int → Int), 32 - k < (n : Int) → 0 ≤ k → k ≤ 32 → f_XA_fill32_L5 fw zv n k fa = fun i => if k ≤ i ∧ i < 32 then zv else fa i := by
  intro n
  induction n with
  | zero => intro k fa h; omega
  | succ n ih =>
    intro k fa h h0 h1
    rw [f_XA_fill32_L5_s]
    split
    · rw [ih _ _ (by omega) (by omega) (by omega)]
      funext i
      unfold jset
      by_cases h : i = k
      · rw [if_neg (by omega), if_pos h, if_pos (by omega)]
      · by_cases h2 : k + 1 ≤ i ∧ i < 32
        · rw [if_pos h2, if_pos (by omega)]
        · rw [if_neg h2, if_neg h, if_neg (by omega)]
    · funext i
      rw [if_neg (by omega)]
theorem f_XA_fill32_eq (fw : Int → Int) (zv : Int) : f_XA_fill32 fw zv = fun i => if 0 ≤ i ∧ i < 32 then zv else fw i := by rw [f_XA_fill32_s]; exact f_XA_fill32_L fw zv _ _ _ (by omega) (by omega) (by omega)
set_option maxHeartbeats 4000000 in
set_option maxRecDepth 100000 in
theorem c_XA_fill32 (l : Launch) (dC : Nat → ClassId) (dI : Nat → Nat → Nat) (cA : ClassId) (sz : Nat) (ra : Nat) (fw : Int → Int) (zv : Int) : Met l yXA_fill (Cond.code yXA_fill cXA_fill 4 none :: TBL) ({ frames := 0, cells := 0, slots := 0, locals := 0 } : Room) (va_Pc [.ref ra, .int (jI zv)] (jBw (dC, dI) [(cA, .int)] [(ra, .inl (cA, 32, .inl (jA fw)))] sz)) (va_Qv (fun (u : (Int → Int)) => u = f_XA_fill32 fw zv) (fun u t => jE (dC, dI) [(cA, .int)] [(ra, .inl (cA, 32, .inl (jA fw)))] sz [(ra, .inl (cA, 32, .inl (jA u)))] t) (va_A [(ra, .inl (cA, 32, .inl (jA fw)))] sz)) 0 0 (va_A [(ra, .inl (cA, 32, .inl (jA fw)))] sz) := by
  refine jMet (cc := cXA_fill) (maxL := 4) (ret := none) (by decide) rfl ?_
  intro p e s m args below meth c s₁ R Q hR hQ B hml hv
  obtain ⟨rfl, hsz, hP, hK, hD0, hN⟩ := hv
  have hx := B.exec
  have hb := B.bytes
  have hr := B.returns
  have hts := atoms_spec (ws := Cond.code yXA_fill cXA_fill 4 none :: TBL) B.pre
  have hown : s.vm.findClass RXA = some m.cls := findClass_of_methodNamed B.named
  have hlocks := B.notSynchronized
  subst hsz
  obtain ⟨A, hAe⟩ : ∃ A, A = va_A [(ra, .inl (cA, 32, .inl (jA fw)))] s.heap.size := ⟨_, rfl⟩
  have hD : va_D A [(ra, .inl (cA, 32, .inl (jA fw)))] := by rw [hAe]; exact hD0.self
  have hA : ∀ q : Nat, s.heap.size ≤ q → A q := fun q h => by rw [hAe]; exact Or.inr h
  have hS : va_S A s.heap s.heap [] := va_S.rf
  have hP : va_P (dC, dI) vwCl [(ra, .inl (cA, 32, .inl (jA fw)))] s.heap := hP
  have hl := lv_entry ([.ref ra, .int (jI zv)]) (n := 4) (Nat.le_of_ble_eq_true rfl)
  rw [lg_entry_eq]
  generalize (lg_sl ([.ref ra, .int (jI zv)]) ++ List.replicate (4 - (lg_sl ([.ref ra, .int (jI zv)])).length) Slot.unset).toArray = ls at hl ⊢
  have hl : lv_has ls 4 [(0, .ref ra), (1, .int (jI zv))] := hl
  refine ji_iconst hx hb dXA_fill_0 ?_
  refine lv_istore_n (lv' := [(2, .int (jI 0)), (0, .ref ra), (1, .int (jI zv))]) hx hb dXA_fill_1 rfl hl (by decide) rfl (fun ls hl => ?_)
  refine lv_aload_n hx hb dXA_fill_2 rfl (lv_at hl 1 rfl) ?_
  refine ji_alen (z := 32) hx hb hK hP 0 0 rfl rfl rfl dXA_fill_3 ?_
  refine lv_istore_n (lv' := [(3, .int (jI 32)), (2, .int (jI 0)), (0, .ref ra), (1, .int (jI zv))]) hx hb dXA_fill_4 rfl hl (by decide) rfl (fun ls hl => ?_)
  have loop5 : ∀ (n9 : Nat) (k : Int) (fa : Int → Int) , 32 - k < (n9 : Int) → f_XA_fill32_L5 fw zv n9 k fa = f_XA_fill32 fw zv → 0 ≤ k ∧ k ≤ 32 → ∀ (H : Heap) (locs : List Loc), va_P (dC, dI) vwCl [(ra, .inl (cA, 32, .inl (jA fa)))] H → va_D A [(ra, .inl (cA, 32, .inl (jA fa)))] → va_S A s.heap H locs → ∀ ls : Array Slot, lv_has ls 4 [(3, .int (jI 32)), (2, .int (jI k)), (0, .ref ra), (1, .int (jI zv))] → W p l e R s m ([.ref ra, .int (jI zv)] : List Value).toArray below meth c H locs 0 0 Q (F0 m 5 ls []) := by
    intro n9
    induction n9 with
    | zero =>
      intro k fa hm hF hk
      exact absurd hm (by omega)
    | succ n9 ih5 =>
      intro k fa hm hF hk H locs hP hD hS ls hl
      refine lv_iload_n hx hb dXA_fill_5 rfl (lv_at hl 1 rfl) ?_
      refine lv_iload_n hx hb dXA_fill_6 rfl (lv_at hl 0 rfl) ?_
      refine ji_icmp_ge (tgt := 20) hx hb dXA_fill_7 (by decide) (by omega) (by omega) (fun c7_ => ?_) (fun c7_ => ?_)
      · have hP9 := hP.sub (ws' := [(ra, .inl (cA, 32, .inl (jA fa)))]) [0] rfl
        have hD9 := hD.sub (ws' := [(ra, .inl (cA, 32, .inl (jA fa)))]) [0] (by decide) rfl
        subst hAe
        subst hQ
        exact W.vret hx hb hr (fun t ht hW => ⟨⟨fa, rfl, Eq.trans (by rw [f_XA_fill32_L5_s]; rw [if_neg (Int.not_lt.mpr c7_)]; try rfl) hF, ⟨by rw [ht]; exact hP9, va_K.moved hW.alike hK, hD9⟩⟩, hS.F ht⟩) hS.2.2 dXA_fill_20
      · refine lv_aload_n hx hb dXA_fill_10 rfl (lv_at hl 2 rfl) ?_
        refine lv_iload_n hx hb dXA_fill_11 rfl (lv_at hl 1 rfl) ?_
        refine lv_iload_n hx hb dXA_fill_12 rfl (lv_at hl 3 rfl) ?_
        refine ji_iast hx hb hK hP hD hS 0 0 rfl rfl ⟨by omega, by omega⟩ (by decide) dXA_fill_13 (fun H locs hP hD hS => ?_)
        have hP : va_P (dC, dI) vwCl [(ra, .inl (cA, 32, .inl (jA (jset fa k zv))))] H := hP
        have hD : va_D A [(ra, .inl (cA, 32, .inl (jA (jset fa k zv))))] := hD
        refine ji_iinc (k := 1) (lv' := [(2, .int (jI (k + 1))), (3, .int (jI 32)), (0, .ref ra), (1, .int (jI zv))]) hx hb dXA_fill_14 hl rfl (by decide) rfl (fun ls hl => ?_)
        refine lv_goto (tgt := 5) hx hb dXA_fill_17 (by decide) ?_
        exact ih5 (k + 1) (jset fa k zv) (by omega) (Eq.trans (by rw [f_XA_fill32_L5_s]; rw [if_pos c7_]; try rfl) hF) (by first | assumption | omega) _ _ hP hD hS ls (lv_sub hl [1, 0, 2, 3] rfl)
  exact loop5 (Int.toNat (32 - 0) + 1) 0 fw (by omega) (Eq.trans (by rw [f_XA_fill32_s]; try rfl) rfl) (by first | assumption | omega) _ _ hP hD hS ls (lv_sub hl [0, 1, 2, 3] rfl)
noncomputable def g_XA_fill124_L5 (fw : Int → Int) (zv : Int) : Nat → Int → (Int → Int) → (Int → Int)
  | 0, _, _ => fun _ => 0
  | n9 + 1, k, fa =>
    if k < 124 then
      g_XA_fill124_L5 fw zv n9 (k + 1) (jset fa k zv)
    else
      fa
noncomputable def f_XA_fill124_L5 : (Int → Int) → Int → Nat → Int → (Int → Int) → (Int → Int) := jopq g_XA_fill124_L5
theorem f_XA_fill124_L5_q : f_XA_fill124_L5 = g_XA_fill124_L5 := jopq_eq _
theorem f_XA_fill124_L5_s (fw : Int → Int) (zv : Int) (n9 : Nat) (k : Int) (fa : Int → Int) : f_XA_fill124_L5 fw zv (n9 + 1) k fa = (
    if k < 124 then
      f_XA_fill124_L5 fw zv n9 (k + 1) (jset fa k zv)
    else
      fa
  ) := by rw [f_XA_fill124_L5_q]; rfl
theorem f_XA_fill124_L5_z (fw : Int → Int) (zv : Int) (k : Int) (fa : Int → Int) : f_XA_fill124_L5 fw zv 0 k fa = fun _ => 0 := by rw [f_XA_fill124_L5_q]; rfl
noncomputable def g_XA_fill124 (fw : Int → Int) (zv : Int) : (Int → Int) :=
  f_XA_fill124_L5 fw zv (Int.toNat (124 - 0) + 1) 0 fw
noncomputable def f_XA_fill124 : (Int → Int) → Int → (Int → Int) := jopq g_XA_fill124
theorem f_XA_fill124_q : f_XA_fill124 = g_XA_fill124 := jopq_eq _
theorem f_XA_fill124_s (fw : Int → Int) (zv : Int) : f_XA_fill124 fw zv = (
    f_XA_fill124_L5 fw zv (Int.toNat (124 - 0) + 1) 0 fw
  ) := by rw [f_XA_fill124_q]; rfl
theorem f_XA_fill124_L (fw : Int → Int) (zv : Int) : ∀ (n : Nat) (k : Int) (fa : Int → Int), 124 - k < (n : Int) → 0 ≤ k → k ≤ 124 → f_XA_fill124_L5 fw zv n k fa = fun i => if k ≤ i ∧ i < 124 then zv else fa i := by
  intro n
  induction n with
  | zero => intro k fa h; omega
  | succ n ih =>
    intro k fa h h0 h1
    rw [f_XA_fill124_L5_s]
    split
    · rw [ih _ _ (by omega) (by omega) (by omega)]
      funext i
      unfold jset
      by_cases h : i = k
      · rw [if_neg (by omega), if_pos h, if_pos (by omega)]
      · by_cases h2 : k + 1 ≤ i ∧ i < 124
        · rw [if_pos h2, if_pos (by omega)]
        · rw [if_neg h2, if_neg h, if_neg (by omega)]
    · funext i
      rw [if_neg (by omega)]
theorem f_XA_fill124_eq (fw : Int → Int) (zv : Int) : f_XA_fill124 fw zv = fun i => if 0 ≤ i ∧ i < 124 then zv else fw i := by rw [f_XA_fill124_s]; exact f_XA_fill124_L fw zv _ _ _ (by omega) (by omega) (by omega)
set_option maxHeartbeats 4000000 in
set_option maxRecDepth 100000 in
theorem c_XA_fill124 (l : Launch) (dC : Nat → ClassId) (dI : Nat → Nat → Nat) (cA : ClassId) (sz : Nat) (ra : Nat) (fw : Int → Int) (zv : Int) : Met l yXA_fill (Cond.code yXA_fill cXA_fill 4 none :: TBL) ({ frames := 0, cells := 0, slots := 0, locals := 0 } : Room) (va_Pc [.ref ra, .int (jI zv)] (jBw (dC, dI) [(cA, .int)] [(ra, .inl (cA, 124, .inl (jA fw)))] sz)) (va_Qv (fun (u : (Int → Int)) => u = f_XA_fill124 fw zv) (fun u t => jE (dC, dI) [(cA, .int)] [(ra, .inl (cA, 124, .inl (jA fw)))] sz [(ra, .inl (cA, 124, .inl (jA u)))] t) (va_A [(ra, .inl (cA, 124, .inl (jA fw)))] sz)) 0 0 (va_A [(ra, .inl (cA, 124, .inl (jA fw)))] sz) := by
  refine jMet (cc := cXA_fill) (maxL := 4) (ret := none) (by decide) rfl ?_
  intro p e s m args below meth c s₁ R Q hR hQ B hml hv
  obtain ⟨rfl, hsz, hP, hK, hD0, hN⟩ := hv
  have hx := B.exec
  have hb := B.bytes
  have hr := B.returns
  have hts := atoms_spec (ws := Cond.code yXA_fill cXA_fill 4 none :: TBL) B.pre
  have hown : s.vm.findClass RXA = some m.cls := findClass_of_methodNamed B.named
  have hlocks := B.notSynchronized
  subst hsz
  obtain ⟨A, hAe⟩ : ∃ A, A = va_A [(ra, .inl (cA, 124, .inl (jA fw)))] s.heap.size := ⟨_, rfl⟩
  have hD : va_D A [(ra, .inl (cA, 124, .inl (jA fw)))] := by rw [hAe]; exact hD0.self
  have hA : ∀ q : Nat, s.heap.size ≤ q → A q := fun q h => by rw [hAe]; exact Or.inr h
  have hS : va_S A s.heap s.heap [] := va_S.rf
  have hP : va_P (dC, dI) vwCl [(ra, .inl (cA, 124, .inl (jA fw)))] s.heap := hP
  have hl := lv_entry ([.ref ra, .int (jI zv)]) (n := 4) (Nat.le_of_ble_eq_true rfl)
  rw [lg_entry_eq]
  generalize (lg_sl ([.ref ra, .int (jI zv)]) ++ List.replicate (4 - (lg_sl ([.ref ra, .int (jI zv)])).length) Slot.unset).toArray = ls at hl ⊢
  have hl : lv_has ls 4 [(0, .ref ra), (1, .int (jI zv))] := hl
  refine ji_iconst hx hb dXA_fill_0 ?_
  refine lv_istore_n (lv' := [(2, .int (jI 0)), (0, .ref ra), (1, .int (jI zv))]) hx hb dXA_fill_1 rfl hl (by decide) rfl (fun ls hl => ?_)
  refine lv_aload_n hx hb dXA_fill_2 rfl (lv_at hl 1 rfl) ?_
  refine ji_alen (z := 124) hx hb hK hP 0 0 rfl rfl rfl dXA_fill_3 ?_
  refine lv_istore_n (lv' := [(3, .int (jI 124)), (2, .int (jI 0)), (0, .ref ra), (1, .int (jI zv))]) hx hb dXA_fill_4 rfl hl (by decide) rfl (fun ls hl => ?_)
  have loop5 : ∀ (n9 : Nat) (k : Int) (fa : Int → Int) , 124 - k < (n9 : Int) → f_XA_fill124_L5 fw zv n9 k fa = f_XA_fill124 fw zv → 0 ≤ k ∧ k ≤ 124 → ∀ (H : Heap) (locs : List Loc), va_P (dC, dI) vwCl [(ra, .inl (cA, 124, .inl (jA fa)))] H → va_D A [(ra, .inl (cA, 124, .inl (jA fa)))] → va_S A s.heap H locs → ∀ ls : Array Slot, lv_has ls 4 [(3, .int (jI 124)), (2, .int (jI k)), (0, .ref ra), (1, .int (jI zv))] → W p l e R s m ([.ref ra, .int (jI zv)] : List Value).toArray below meth c H locs 0 0 Q (F0 m 5 ls []) := by
    intro n9
    induction n9 with
    | zero =>
      intro k fa hm hF hk
      exact absurd hm (by omega)
    | succ n9 ih5 =>
      intro k fa hm hF hk H locs hP hD hS ls hl
      refine lv_iload_n hx hb dXA_fill_5 rfl (lv_at hl 1 rfl) ?_
      refine lv_iload_n hx hb dXA_fill_6 rfl (lv_at hl 0 rfl) ?_
      refine ji_icmp_ge (tgt := 20) hx hb dXA_fill_7 (by decide) (by omega) (by omega) (fun c7_ => ?_) (fun c7_ => ?_)
      · have hP9 := hP.sub (ws' := [(ra, .inl (cA, 124, .inl (jA fa)))]) [0] rfl
        have hD9 := hD.sub (ws' := [(ra, .inl (cA, 124, .inl (jA fa)))]) [0] (by decide) rfl
        subst hAe
        subst hQ
        exact W.vret hx hb hr (fun t ht hW => ⟨⟨fa, rfl, Eq.trans (by rw [f_XA_fill124_L5_s]; rw [if_neg (Int.not_lt.mpr c7_)]; try rfl) hF, ⟨by rw [ht]; exact hP9, va_K.moved hW.alike hK, hD9⟩⟩, hS.F ht⟩) hS.2.2 dXA_fill_20
      · refine lv_aload_n hx hb dXA_fill_10 rfl (lv_at hl 2 rfl) ?_
        refine lv_iload_n hx hb dXA_fill_11 rfl (lv_at hl 1 rfl) ?_
        refine lv_iload_n hx hb dXA_fill_12 rfl (lv_at hl 3 rfl) ?_
        refine ji_iast hx hb hK hP hD hS 0 0 rfl rfl ⟨by omega, by omega⟩ (by decide) dXA_fill_13 (fun H locs hP hD hS => ?_)
        have hP : va_P (dC, dI) vwCl [(ra, .inl (cA, 124, .inl (jA (jset fa k zv))))] H := hP
        have hD : va_D A [(ra, .inl (cA, 124, .inl (jA (jset fa k zv))))] := hD
        refine ji_iinc (k := 1) (lv' := [(2, .int (jI (k + 1))), (3, .int (jI 124)), (0, .ref ra), (1, .int (jI zv))]) hx hb dXA_fill_14 hl rfl (by decide) rfl (fun ls hl => ?_)
        refine lv_goto (tgt := 5) hx hb dXA_fill_17 (by decide) ?_
        exact ih5 (k + 1) (jset fa k zv) (by omega) (Eq.trans (by rw [f_XA_fill124_L5_s]; rw [if_pos c7_]; try rfl) hF) (by first | assumption | omega) _ _ hP hD hS ls (lv_sub hl [1, 0, 2, 3] rfl)
  exact loop5 (Int.toNat (124 - 0) + 1) 0 fw (by omega) (Eq.trans (by rw [f_XA_fill124_s]; try rfl) rfl) (by first | assumption | omega) _ _ hP hD hS ls (lv_sub hl [0, 1, 2, 3] rfl)
noncomputable def g_XA_fill248_L5 (fw : Int → Int) (zv : Int) : Nat → Int → (Int → Int) → (Int → Int)
  | 0, _, _ => fun _ => 0
  | n9 + 1, k, fa =>
    if k < 248 then
      g_XA_fill248_L5 fw zv n9 (k + 1) (jset fa k zv)
    else
      fa
noncomputable def f_XA_fill248_L5 : (Int → Int) → Int → Nat → Int → (Int → Int) → (Int → Int) := jopq g_XA_fill248_L5
theorem f_XA_fill248_L5_q : f_XA_fill248_L5 = g_XA_fill248_L5 := jopq_eq _
theorem f_XA_fill248_L5_s (fw : Int → Int) (zv : Int) (n9 : Nat) (k : Int) (fa : Int → Int) : f_XA_fill248_L5 fw zv (n9 + 1) k fa = (
    if k < 248 then
      f_XA_fill248_L5 fw zv n9 (k + 1) (jset fa k zv)
    else
      fa
  ) := by rw [f_XA_fill248_L5_q]; rfl
theorem f_XA_fill248_L5_z (fw : Int → Int) (zv : Int) (k : Int) (fa : Int → Int) : f_XA_fill248_L5 fw zv 0 k fa = fun _ => 0 := by rw [f_XA_fill248_L5_q]; rfl
noncomputable def g_XA_fill248 (fw : Int → Int) (zv : Int) : (Int → Int) :=
  f_XA_fill248_L5 fw zv (Int.toNat (248 - 0) + 1) 0 fw
noncomputable def f_XA_fill248 : (Int → Int) → Int → (Int → Int) := jopq g_XA_fill248
theorem f_XA_fill248_q : f_XA_fill248 = g_XA_fill248 := jopq_eq _
theorem f_XA_fill248_s (fw : Int → Int) (zv : Int) : f_XA_fill248 fw zv = (
    f_XA_fill248_L5 fw zv (Int.toNat (248 - 0) + 1) 0 fw
  ) := by rw [f_XA_fill248_q]; rfl
theorem f_XA_fill248_L (fw : Int → Int) (zv : Int) : ∀ (n : Nat) (k : Int) (fa : Int → Int), 248 - k < (n : Int) → 0 ≤ k → k ≤ 248 → f_XA_fill248_L5 fw zv n k fa = fun i => if k ≤ i ∧ i < 248 then zv else fa i := by
  intro n
  induction n with
  | zero => intro k fa h; omega
  | succ n ih =>
    intro k fa h h0 h1
    rw [f_XA_fill248_L5_s]
    split
    · rw [ih _ _ (by omega) (by omega) (by omega)]
      funext i
      unfold jset
      by_cases h : i = k
      · rw [if_neg (by omega), if_pos h, if_pos (by omega)]
      · by_cases h2 : k + 1 ≤ i ∧ i < 248
        · rw [if_pos h2, if_pos (by omega)]
        · rw [if_neg h2, if_neg h, if_neg (by omega)]
    · funext i
      rw [if_neg (by omega)]
theorem f_XA_fill248_eq (fw : Int → Int) (zv : Int) : f_XA_fill248 fw zv = fun i => if 0 ≤ i ∧ i < 248 then zv else fw i := by rw [f_XA_fill248_s]; exact f_XA_fill248_L fw zv _ _ _ (by omega) (by omega) (by omega)
set_option maxHeartbeats 4000000 in
set_option maxRecDepth 100000 in
theorem c_XA_fill248 (l : Launch) (dC : Nat → ClassId) (dI : Nat → Nat → Nat) (cA : ClassId) (sz : Nat) (ra : Nat) (fw : Int → Int) (zv : Int) : Met l yXA_fill (Cond.code yXA_fill cXA_fill 4 none :: TBL) ({ frames := 0, cells := 0, slots := 0, locals := 0 } : Room) (va_Pc [.ref ra, .int (jI zv)] (jBw (dC, dI) [(cA, .int)] [(ra, .inl (cA, 248, .inl (jA fw)))] sz)) (va_Qv (fun (u : (Int → Int)) => u = f_XA_fill248 fw zv) (fun u t => jE (dC, dI) [(cA, .int)] [(ra, .inl (cA, 248, .inl (jA fw)))] sz [(ra, .inl (cA, 248, .inl (jA u)))] t) (va_A [(ra, .inl (cA, 248, .inl (jA fw)))] sz)) 0 0 (va_A [(ra, .inl (cA, 248, .inl (jA fw)))] sz) := by
  refine jMet (cc := cXA_fill) (maxL := 4) (ret := none) (by decide) rfl ?_
  intro p e s m args below meth c s₁ R Q hR hQ B hml hv
  obtain ⟨rfl, hsz, hP, hK, hD0, hN⟩ := hv
  have hx := B.exec
  have hb := B.bytes
  have hr := B.returns
  have hts := atoms_spec (ws := Cond.code yXA_fill cXA_fill 4 none :: TBL) B.pre
  have hown : s.vm.findClass RXA = some m.cls := findClass_of_methodNamed B.named
  have hlocks := B.notSynchronized
  subst hsz
  obtain ⟨A, hAe⟩ : ∃ A, A = va_A [(ra, .inl (cA, 248, .inl (jA fw)))] s.heap.size := ⟨_, rfl⟩
  have hD : va_D A [(ra, .inl (cA, 248, .inl (jA fw)))] := by rw [hAe]; exact hD0.self
  have hA : ∀ q : Nat, s.heap.size ≤ q → A q := fun q h => by rw [hAe]; exact Or.inr h
  have hS : va_S A s.heap s.heap [] := va_S.rf
  have hP : va_P (dC, dI) vwCl [(ra, .inl (cA, 248, .inl (jA fw)))] s.heap := hP
  have hl := lv_entry ([.ref ra, .int (jI zv)]) (n := 4) (Nat.le_of_ble_eq_true rfl)
  rw [lg_entry_eq]
  generalize (lg_sl ([.ref ra, .int (jI zv)]) ++ List.replicate (4 - (lg_sl ([.ref ra, .int (jI zv)])).length) Slot.unset).toArray = ls at hl ⊢
  have hl : lv_has ls 4 [(0, .ref ra), (1, .int (jI zv))] := hl
  refine ji_iconst hx hb dXA_fill_0 ?_
  refine lv_istore_n (lv' := [(2, .int (jI 0)), (0, .ref ra), (1, .int (jI zv))]) hx hb dXA_fill_1 rfl hl (by decide) rfl (fun ls hl => ?_)
  refine lv_aload_n hx hb dXA_fill_2 rfl (lv_at hl 1 rfl) ?_
  refine ji_alen (z := 248) hx hb hK hP 0 0 rfl rfl rfl dXA_fill_3 ?_
  refine lv_istore_n (lv' := [(3, .int (jI 248)), (2, .int (jI 0)), (0, .ref ra), (1, .int (jI zv))]) hx hb dXA_fill_4 rfl hl (by decide) rfl (fun ls hl => ?_)
  have loop5 : ∀ (n9 : Nat) (k : Int) (fa : Int → Int) , 248 - k < (n9 : Int) → f_XA_fill248_L5 fw zv n9 k fa = f_XA_fill248 fw zv → 0 ≤ k ∧ k ≤ 248 → ∀ (H : Heap) (locs : List Loc), va_P (dC, dI) vwCl [(ra, .inl (cA, 248, .inl (jA fa)))] H → va_D A [(ra, .inl (cA, 248, .inl (jA fa)))] → va_S A s.heap H locs → ∀ ls : Array Slot, lv_has ls 4 [(3, .int (jI 248)), (2, .int (jI k)), (0, .ref ra), (1, .int (jI zv))] → W p l e R s m ([.ref ra, .int (jI zv)] : List Value).toArray below meth c H locs 0 0 Q (F0 m 5 ls []) := by
    intro n9
    induction n9 with
    | zero =>
      intro k fa hm hF hk
      exact absurd hm (by omega)
    | succ n9 ih5 =>
      intro k fa hm hF hk H locs hP hD hS ls hl
      refine lv_iload_n hx hb dXA_fill_5 rfl (lv_at hl 1 rfl) ?_
      refine lv_iload_n hx hb dXA_fill_6 rfl (lv_at hl 0 rfl) ?_
      refine ji_icmp_ge (tgt := 20) hx hb dXA_fill_7 (by decide) (by omega) (by omega) (fun c7_ => ?_) (fun c7_ => ?_)
      · have hP9 := hP.sub (ws' := [(ra, .inl (cA, 248, .inl (jA fa)))]) [0] rfl
        have hD9 := hD.sub (ws' := [(ra, .inl (cA, 248, .inl (jA fa)))]) [0] (by decide) rfl
        subst hAe
        subst hQ
        exact W.vret hx hb hr (fun t ht hW => ⟨⟨fa, rfl, Eq.trans (by rw [f_XA_fill248_L5_s]; rw [if_neg (Int.not_lt.mpr c7_)]; try rfl) hF, ⟨by rw [ht]; exact hP9, va_K.moved hW.alike hK, hD9⟩⟩, hS.F ht⟩) hS.2.2 dXA_fill_20
      · refine lv_aload_n hx hb dXA_fill_10 rfl (lv_at hl 2 rfl) ?_
        refine lv_iload_n hx hb dXA_fill_11 rfl (lv_at hl 1 rfl) ?_
        refine lv_iload_n hx hb dXA_fill_12 rfl (lv_at hl 3 rfl) ?_
        refine ji_iast hx hb hK hP hD hS 0 0 rfl rfl ⟨by omega, by omega⟩ (by decide) dXA_fill_13 (fun H locs hP hD hS => ?_)
        have hP : va_P (dC, dI) vwCl [(ra, .inl (cA, 248, .inl (jA (jset fa k zv))))] H := hP
        have hD : va_D A [(ra, .inl (cA, 248, .inl (jA (jset fa k zv))))] := hD
        refine ji_iinc (k := 1) (lv' := [(2, .int (jI (k + 1))), (3, .int (jI 248)), (0, .ref ra), (1, .int (jI zv))]) hx hb dXA_fill_14 hl rfl (by decide) rfl (fun ls hl => ?_)
        refine lv_goto (tgt := 5) hx hb dXA_fill_17 (by decide) ?_
        exact ih5 (k + 1) (jset fa k zv) (by omega) (Eq.trans (by rw [f_XA_fill248_L5_s]; rw [if_pos c7_]; try rfl) hF) (by first | assumption | omega) _ _ hP hD hS ls (lv_sub hl [1, 0, 2, 3] rfl)
  exact loop5 (Int.toNat (248 - 0) + 1) 0 fw (by omega) (Eq.trans (by rw [f_XA_fill248_s]; try rfl) rfl) (by first | assumption | omega) _ _ hP hD hS ls (lv_sub hl [0, 1, 2, 3] rfl)
end
section
noncomputable def g_XB_divisorOf (bg : Int) (bf : Int) (fd : Int → Int) (zk : Int) (ze : Int) : Int :=
  fd ((zk * 8) + ze)
noncomputable def f_XB_divisorOf : Int → Int → (Int → Int) → Int → Int → Int := jopq g_XB_divisorOf
theorem f_XB_divisorOf_q : f_XB_divisorOf = g_XB_divisorOf := jopq_eq _
theorem f_XB_divisorOf_s (bg : Int) (bf : Int) (fd : Int → Int) (zk : Int) (ze : Int) : f_XB_divisorOf bg bf fd zk ze = (
    fd ((zk * 8) + ze)
  ) := by rw [f_XB_divisorOf_q]; rfl
theorem f_XB_divisorOf_b (bg : Int) (bf : Int) (fd : Int → Int) (zk : Int) (ze : Int) (hbd : ∀ i, 0 ≤ fd i ∧ fd i ≤ 20) (hzk : 0 ≤ zk ∧ zk < 4) (hze : 0 ≤ ze ∧ ze < 8) : 0 ≤ (f_XB_divisorOf bg bf fd zk ze) ∧ (f_XB_divisorOf bg bf fd zk ze) ≤ 20 := by rw [f_XB_divisorOf_s]; exact hbd _
set_option maxHeartbeats 4000000 in
set_option maxRecDepth 100000 in
theorem c_XB_divisorOf (l : Launch) (dC : Nat → ClassId) (dI : Nat → Nat → Nat) (cA : ClassId) (ba : Nat) (bt : Nat) (bp : Nat) (bl : Nat) (bh : Nat) (bq : Nat) (br : Nat) (bd : Nat) (bg : Int) (bf : Int) (fd : Int → Int) (zk : Int) (ze : Int) (hbd : ∀ i, 0 ≤ fd i ∧ fd i ≤ 20) (hzk : 0 ≤ zk ∧ zk < 4) (hze : 0 ≤ ze ∧ ze < 8) : Met l yXB_divisorOf (Cond.code yXB_divisorOf cXB_divisorOf 3 (some .int) :: TBL) ({ frames := 0, cells := 0, slots := 0, locals := 0 } : Room) (va_Pc [.ref ba, .int (jI zk), .int (jI ze)] (jB (dC, dI) [(cA, .int)] [(ba, .inr (0, [.ref bt, .ref bp, .ref bl, .ref bh, .ref bq, .ref br, .ref bd, .int (jI bg), .int (jI bf)])), (bd, .inl (cA, 32, .inl (jA fd)))])) (vp_Si (fun r => r = jI (f_XB_divisorOf bg bf fd zk ze))) 0 0 (fun _ => False) := by
  refine jMet (cc := cXB_divisorOf) (maxL := 3) (ret := some .int) (by decide) rfl ?_
  intro p e s m args below meth c s₁ R Q hR hQ B hml hv
  obtain ⟨rfl, hP, hK, hN⟩ := hv
  have hx := B.exec
  have hb := B.bytes
  have hr := B.returns
  have hts := atoms_spec (ws := Cond.code yXB_divisorOf cXB_divisorOf 3 (some .int) :: TBL) B.pre
  have hown : s.vm.findClass RXB = some m.cls := findClass_of_methodNamed B.named
  have hlocks := B.notSynchronized
  have hP : va_P (dC, dI) vwCl [(ba, .inr (0, [.ref bt, .ref bp, .ref bl, .ref bh, .ref bq, .ref br, .ref bd, .int (jI bg), .int (jI bf)])), (bd, .inl (cA, 32, .inl (jA fd)))] s.heap := hP
  have hl := lv_entry ([.ref ba, .int (jI zk), .int (jI ze)]) (n := 3) (Nat.le_of_ble_eq_true rfl)
  rw [lg_entry_eq]
  generalize (lg_sl ([.ref ba, .int (jI zk), .int (jI ze)]) ++ List.replicate (3 - (lg_sl ([.ref ba, .int (jI zk), .int (jI ze)])).length) Slot.unset).toArray = ls at hl ⊢
  have hl : lv_has ls 3 [(0, .ref ba), (1, .int (jI zk)), (2, .int (jI ze))] := hl
  refine lv_aload_n hx hb dXB_divisorOf_0 rfl (lv_at hl 0 rfl) ?_
  refine va_get (D := (dC, dI)) (ci := 0) (v := .ref bd) (C := RXB) (T := TXB) (N := 9) hx hb hts (fun w h => jmem (inXB w h)) hown hK hP 0 rfl rfl 6 (by decide) (hts _ (jmem tw_79)) (fun _ h9 => h9) rfl dXB_divisorOf_1 ?_
  refine lv_iload_n hx hb dXB_divisorOf_4 rfl (lv_at hl 1 rfl) ?_
  refine ji_bipush hx hb dXB_divisorOf_5 (by decide) ?_
  refine ji_imul hx hb dXB_divisorOf_7 ?_
  refine lv_iload_n hx hb dXB_divisorOf_8 rfl (lv_at hl 2 rfl) ?_
  refine ji_iadd hx hb dXB_divisorOf_9 ?_
  refine ji_iald hx hb hK hP 1 0 rfl rfl ⟨by omega, by omega⟩ (by decide) dXB_divisorOf_10 ?_
  have rb := hbd ((zk * 8) + ze)
  subst hQ
  exact W.iret (v := jI (fd ((zk * 8) + ze))) hx hb hr (fun t ht hW => ⟨_, rfl, congrArg jI (Eq.trans (by rw [f_XB_divisorOf_s]; try rfl) rfl), ht⟩) (fun _ h => nomatch h) dXB_divisorOf_11
noncomputable def g_XB_tellsSpan (bg : Int) (bf : Int) (fh : Int → Int) (zg : Int) (ze : Int) : Int :=
  if (fh ((zg * 8) + ze)) = (-1) then
    0
  else
    1
noncomputable def f_XB_tellsSpan : Int → Int → (Int → Int) → Int → Int → Int := jopq g_XB_tellsSpan
theorem f_XB_tellsSpan_q : f_XB_tellsSpan = g_XB_tellsSpan := jopq_eq _
theorem f_XB_tellsSpan_s (bg : Int) (bf : Int) (fh : Int → Int) (zg : Int) (ze : Int) : f_XB_tellsSpan bg bf fh zg ze = (
    if (fh ((zg * 8) + ze)) = (-1) then
      0
    else
      1
  ) := by rw [f_XB_tellsSpan_q]; rfl
theorem f_XB_tellsSpan_b (bg : Int) (bf : Int) (fh : Int → Int) (zg : Int) (ze : Int) (hbh : ∀ i, -1 ≤ fh i ∧ fh i ≤ 100000) (hzg : 0 ≤ zg ∧ zg ≤ 30) (hze : 0 ≤ ze ∧ ze < 8) : 0 ≤ (f_XB_tellsSpan bg bf fh zg ze) ∧ (f_XB_tellsSpan bg bf fh zg ze) ≤ 1 := by rw [f_XB_tellsSpan_s]; split <;> omega
theorem f_XB_tellsSpan_c (bg : Int) (bf : Int) (fh : Int → Int) (zg : Int) (ze : Int) (hbh : ∀ i, -1 ≤ fh i ∧ fh i ≤ 100000) (hzg : 0 ≤ zg ∧ zg ≤ 30) (hze : 0 ≤ ze ∧ ze < 8) : (f_XB_tellsSpan bg bf fh zg ze) = 1 → 0 ≤ fh (zg * 8 + ze) := by have := hbh (zg * 8 + ze); rw [f_XB_tellsSpan_s]; split <;> omega
set_option maxHeartbeats 4000000 in
set_option maxRecDepth 100000 in
theorem c_XB_tellsSpan (l : Launch) (dC : Nat → ClassId) (dI : Nat → Nat → Nat) (cA : ClassId) (ba : Nat) (bt : Nat) (bp : Nat) (bl : Nat) (bh : Nat) (bq : Nat) (br : Nat) (bd : Nat) (bg : Int) (bf : Int) (fh : Int → Int) (zg : Int) (ze : Int) (hbh : ∀ i, -1 ≤ fh i ∧ fh i ≤ 100000) (hzg : 0 ≤ zg ∧ zg ≤ 30) (hze : 0 ≤ ze ∧ ze < 8) : Met l yXB_tellsSpan (Cond.code yXB_tellsSpan cXB_tellsSpan 3 (some .boolean) :: TBL) ({ frames := 0, cells := 0, slots := 0, locals := 0 } : Room) (va_Pc [.ref ba, .int (jI zg), .int (jI ze)] (jB (dC, dI) [(cA, .int)] [(ba, .inr (0, [.ref bt, .ref bp, .ref bl, .ref bh, .ref bq, .ref br, .ref bd, .int (jI bg), .int (jI bf)])), (bh, .inl (cA, 248, .inl (jA fh)))])) (vp_Si (fun r => r = jI (f_XB_tellsSpan bg bf fh zg ze))) 0 0 (fun _ => False) := by
  refine jMet (cc := cXB_tellsSpan) (maxL := 3) (ret := some .boolean) (by decide) rfl ?_
  intro p e s m args below meth c s₁ R Q hR hQ B hml hv
  obtain ⟨rfl, hP, hK, hN⟩ := hv
  have hx := B.exec
  have hb := B.bytes
  have hr := B.returns
  have hts := atoms_spec (ws := Cond.code yXB_tellsSpan cXB_tellsSpan 3 (some .boolean) :: TBL) B.pre
  have hown : s.vm.findClass RXB = some m.cls := findClass_of_methodNamed B.named
  have hlocks := B.notSynchronized
  have hP : va_P (dC, dI) vwCl [(ba, .inr (0, [.ref bt, .ref bp, .ref bl, .ref bh, .ref bq, .ref br, .ref bd, .int (jI bg), .int (jI bf)])), (bh, .inl (cA, 248, .inl (jA fh)))] s.heap := hP
  have hl := lv_entry ([.ref ba, .int (jI zg), .int (jI ze)]) (n := 3) (Nat.le_of_ble_eq_true rfl)
  rw [lg_entry_eq]
  generalize (lg_sl ([.ref ba, .int (jI zg), .int (jI ze)]) ++ List.replicate (3 - (lg_sl ([.ref ba, .int (jI zg), .int (jI ze)])).length) Slot.unset).toArray = ls at hl ⊢
  have hl : lv_has ls 3 [(0, .ref ba), (1, .int (jI zg)), (2, .int (jI ze))] := hl
  refine lv_aload_n hx hb dXB_tellsSpan_0 rfl (lv_at hl 0 rfl) ?_
  refine va_get (D := (dC, dI)) (ci := 0) (v := .ref bh) (C := RXB) (T := TXB) (N := 9) hx hb hts (fun w h => jmem (inXB w h)) hown hK hP 0 rfl rfl 3 (by decide) (hts _ (jmem tw_76)) (fun _ h9 => h9) rfl dXB_tellsSpan_1 ?_
  refine lv_iload_n hx hb dXB_tellsSpan_4 rfl (lv_at hl 1 rfl) ?_
  refine ji_bipush hx hb dXB_tellsSpan_5 (by decide) ?_
  refine ji_imul hx hb dXB_tellsSpan_7 ?_
  refine lv_iload_n hx hb dXB_tellsSpan_8 rfl (lv_at hl 2 rfl) ?_
  refine ji_iadd hx hb dXB_tellsSpan_9 ?_
  refine ji_iald hx hb hK hP 1 0 rfl rfl ⟨by omega, by omega⟩ (by decide) dXB_tellsSpan_10 ?_
  have rb := hbh ((zg * 8) + ze)
  refine ji_iconst hx hb dXB_tellsSpan_11 ?_
  refine ji_icmp_eq (tgt := 19) hx hb dXB_tellsSpan_12 (by decide) (by omega) (by omega) (fun c12_ => ?_) (fun c12_ => ?_)
  · refine ji_iconst hx hb dXB_tellsSpan_19 ?_
    subst hQ
    exact W.zret (v := jI 0) hx hb hr (by first | decide | exact jz (by omega)) (fun t ht hW => ⟨_, rfl, congrArg jI (Eq.trans (by rw [f_XB_tellsSpan_s]; rw [if_pos c12_]; try rfl) rfl), ht⟩) (fun _ h => nomatch h) dXB_tellsSpan_20
  · refine ji_iconst hx hb dXB_tellsSpan_15 ?_
    refine lv_goto (tgt := 20) hx hb dXB_tellsSpan_16 (by decide) ?_
    subst hQ
    exact W.zret (v := jI 1) hx hb hr (by first | decide | exact jz (by omega)) (fun t ht hW => ⟨_, rfl, congrArg jI (Eq.trans (by rw [f_XB_tellsSpan_s]; rw [if_neg c12_]; try rfl) rfl), ht⟩) (fun _ h => nomatch h) dXB_tellsSpan_20
noncomputable def g_XB_tellsLimit (bg : Int) (bf : Int) (fq : Int → Int) (zg : Int) (zk : Int) : Int :=
  if (fq ((zg * 4) + zk)) = (-1) then
    0
  else
    1
noncomputable def f_XB_tellsLimit : Int → Int → (Int → Int) → Int → Int → Int := jopq g_XB_tellsLimit
theorem f_XB_tellsLimit_q : f_XB_tellsLimit = g_XB_tellsLimit := jopq_eq _
theorem f_XB_tellsLimit_s (bg : Int) (bf : Int) (fq : Int → Int) (zg : Int) (zk : Int) : f_XB_tellsLimit bg bf fq zg zk = (
    if (fq ((zg * 4) + zk)) = (-1) then
      0
    else
      1
  ) := by rw [f_XB_tellsLimit_q]; rfl
theorem f_XB_tellsLimit_b (bg : Int) (bf : Int) (fq : Int → Int) (zg : Int) (zk : Int) (hbq : ∀ i, -1 ≤ fq i ∧ fq i ≤ 999999) (hzg : 0 ≤ zg ∧ zg ≤ 30) (hzk : 0 ≤ zk ∧ zk < 4) : 0 ≤ (f_XB_tellsLimit bg bf fq zg zk) ∧ (f_XB_tellsLimit bg bf fq zg zk) ≤ 1 := by rw [f_XB_tellsLimit_s]; split <;> omega
theorem f_XB_tellsLimit_c (bg : Int) (bf : Int) (fq : Int → Int) (zg : Int) (zk : Int) (hbq : ∀ i, -1 ≤ fq i ∧ fq i ≤ 999999) (hzg : 0 ≤ zg ∧ zg ≤ 30) (hzk : 0 ≤ zk ∧ zk < 4) : (f_XB_tellsLimit bg bf fq zg zk) = 1 → 0 ≤ fq (zg * 4 + zk) := by have := hbq (zg * 4 + zk); rw [f_XB_tellsLimit_s]; split <;> omega
set_option maxHeartbeats 4000000 in
set_option maxRecDepth 100000 in
theorem c_XB_tellsLimit (l : Launch) (dC : Nat → ClassId) (dI : Nat → Nat → Nat) (cA : ClassId) (ba : Nat) (bt : Nat) (bp : Nat) (bl : Nat) (bh : Nat) (bq : Nat) (br : Nat) (bd : Nat) (bg : Int) (bf : Int) (fq : Int → Int) (zg : Int) (zk : Int) (hbq : ∀ i, -1 ≤ fq i ∧ fq i ≤ 999999) (hzg : 0 ≤ zg ∧ zg ≤ 30) (hzk : 0 ≤ zk ∧ zk < 4) : Met l yXB_tellsLimit (Cond.code yXB_tellsLimit cXB_tellsLimit 3 (some .boolean) :: TBL) ({ frames := 0, cells := 0, slots := 0, locals := 0 } : Room) (va_Pc [.ref ba, .int (jI zg), .int (jI zk)] (jB (dC, dI) [(cA, .int)] [(ba, .inr (0, [.ref bt, .ref bp, .ref bl, .ref bh, .ref bq, .ref br, .ref bd, .int (jI bg), .int (jI bf)])), (bq, .inl (cA, 124, .inl (jA fq)))])) (vp_Si (fun r => r = jI (f_XB_tellsLimit bg bf fq zg zk))) 0 0 (fun _ => False) := by
  refine jMet (cc := cXB_tellsLimit) (maxL := 3) (ret := some .boolean) (by decide) rfl ?_
  intro p e s m args below meth c s₁ R Q hR hQ B hml hv
  obtain ⟨rfl, hP, hK, hN⟩ := hv
  have hx := B.exec
  have hb := B.bytes
  have hr := B.returns
  have hts := atoms_spec (ws := Cond.code yXB_tellsLimit cXB_tellsLimit 3 (some .boolean) :: TBL) B.pre
  have hown : s.vm.findClass RXB = some m.cls := findClass_of_methodNamed B.named
  have hlocks := B.notSynchronized
  have hP : va_P (dC, dI) vwCl [(ba, .inr (0, [.ref bt, .ref bp, .ref bl, .ref bh, .ref bq, .ref br, .ref bd, .int (jI bg), .int (jI bf)])), (bq, .inl (cA, 124, .inl (jA fq)))] s.heap := hP
  have hl := lv_entry ([.ref ba, .int (jI zg), .int (jI zk)]) (n := 3) (Nat.le_of_ble_eq_true rfl)
  rw [lg_entry_eq]
  generalize (lg_sl ([.ref ba, .int (jI zg), .int (jI zk)]) ++ List.replicate (3 - (lg_sl ([.ref ba, .int (jI zg), .int (jI zk)])).length) Slot.unset).toArray = ls at hl ⊢
  have hl : lv_has ls 3 [(0, .ref ba), (1, .int (jI zg)), (2, .int (jI zk))] := hl
  refine lv_aload_n hx hb dXB_tellsLimit_0 rfl (lv_at hl 0 rfl) ?_
  refine va_get (D := (dC, dI)) (ci := 0) (v := .ref bq) (C := RXB) (T := TXB) (N := 9) hx hb hts (fun w h => jmem (inXB w h)) hown hK hP 0 rfl rfl 4 (by decide) (hts _ (jmem tw_77)) (fun _ h9 => h9) rfl dXB_tellsLimit_1 ?_
  refine lv_iload_n hx hb dXB_tellsLimit_4 rfl (lv_at hl 1 rfl) ?_
  refine ji_iconst hx hb dXB_tellsLimit_5 ?_
  refine ji_imul hx hb dXB_tellsLimit_6 ?_
  refine lv_iload_n hx hb dXB_tellsLimit_7 rfl (lv_at hl 2 rfl) ?_
  refine ji_iadd hx hb dXB_tellsLimit_8 ?_
  refine ji_iald hx hb hK hP 1 0 rfl rfl ⟨by omega, by omega⟩ (by decide) dXB_tellsLimit_9 ?_
  have rb := hbq ((zg * 4) + zk)
  refine ji_iconst hx hb dXB_tellsLimit_10 ?_
  refine ji_icmp_eq (tgt := 18) hx hb dXB_tellsLimit_11 (by decide) (by omega) (by omega) (fun c11_ => ?_) (fun c11_ => ?_)
  · refine ji_iconst hx hb dXB_tellsLimit_18 ?_
    subst hQ
    exact W.zret (v := jI 0) hx hb hr (by first | decide | exact jz (by omega)) (fun t ht hW => ⟨_, rfl, congrArg jI (Eq.trans (by rw [f_XB_tellsLimit_s]; rw [if_pos c11_]; try rfl) rfl), ht⟩) (fun _ h => nomatch h) dXB_tellsLimit_19
  · refine ji_iconst hx hb dXB_tellsLimit_14 ?_
    refine lv_goto (tgt := 19) hx hb dXB_tellsLimit_15 (by decide) ?_
    subst hQ
    exact W.zret (v := jI 1) hx hb hr (by first | decide | exact jz (by omega)) (fun t ht hW => ⟨_, rfl, congrArg jI (Eq.trans (by rw [f_XB_tellsLimit_s]; rw [if_neg c11_]; try rfl) rfl), ht⟩) (fun _ h => nomatch h) dXB_tellsLimit_19
noncomputable def g_XB_tellFormula (bg : Int) (bf : Int) (zk : Int) : Int :=
  jor bf (jpow zk)
noncomputable def f_XB_tellFormula : Int → Int → Int → Int := jopq g_XB_tellFormula
theorem f_XB_tellFormula_q : f_XB_tellFormula = g_XB_tellFormula := jopq_eq _
theorem f_XB_tellFormula_s (bg : Int) (bf : Int) (zk : Int) : f_XB_tellFormula bg bf zk = (
    jor bf (jpow zk)
  ) := by rw [f_XB_tellFormula_q]; rfl
theorem f_XB_tellFormula_b (bg : Int) (bf : Int) (zk : Int) (hbf : 0 ≤ bf ∧ bf < 2147483648) (hzk : 0 ≤ zk ∧ zk < 4) : 0 ≤ (f_XB_tellFormula bg bf zk) ∧ (f_XB_tellFormula bg bf zk) < 2147483648 := by rw [f_XB_tellFormula_s]; exact ⟨jor_nn _ _, jor_lt hbf.2 (jpow_lt (by omega))⟩
set_option maxHeartbeats 4000000 in
set_option maxRecDepth 100000 in
theorem c_XB_tellFormula (l : Launch) (dC : Nat → ClassId) (dI : Nat → Nat → Nat) (cA : ClassId) (sz : Nat) (ba : Nat) (bt : Nat) (bp : Nat) (bl : Nat) (bh : Nat) (bq : Nat) (br : Nat) (bd : Nat) (bg : Int) (bf : Int) (zk : Int) (hbf : 0 ≤ bf ∧ bf < 2147483648) (hzk : 0 ≤ zk ∧ zk < 4) : Met l yXB_tellFormula (Cond.code yXB_tellFormula cXB_tellFormula 2 none :: TBL) ({ frames := 0, cells := 0, slots := 0, locals := 0 } : Room) (va_Pc [.ref ba, .int (jI zk)] (jBw (dC, dI) [(cA, .int)] [(ba, .inr (0, [.ref bt, .ref bp, .ref bl, .ref bh, .ref bq, .ref br, .ref bd, .int (jI bg), .int (jI bf)]))] sz)) (va_Qv (fun (u : Int) => u = f_XB_tellFormula bg bf zk) (fun u t => jE (dC, dI) [(cA, .int)] [(ba, .inr (0, [.ref bt, .ref bp, .ref bl, .ref bh, .ref bq, .ref br, .ref bd, .int (jI bg), .int (jI bf)]))] sz [(ba, .inr (0, [.ref bt, .ref bp, .ref bl, .ref bh, .ref bq, .ref br, .ref bd, .int (jI bg), .int (jI u)]))] t) (va_A [(ba, .inr (0, [.ref bt, .ref bp, .ref bl, .ref bh, .ref bq, .ref br, .ref bd, .int (jI bg), .int (jI bf)]))] sz)) 0 0 (va_A [(ba, .inr (0, [.ref bt, .ref bp, .ref bl, .ref bh, .ref bq, .ref br, .ref bd, .int (jI bg), .int (jI bf)]))] sz) := by
  refine jMet (cc := cXB_tellFormula) (maxL := 2) (ret := none) (by decide) rfl ?_
  intro p e s m args below meth c s₁ R Q hR hQ B hml hv
  obtain ⟨rfl, hsz, hP, hK, hD0, hN⟩ := hv
  have hx := B.exec
  have hb := B.bytes
  have hr := B.returns
  have hts := atoms_spec (ws := Cond.code yXB_tellFormula cXB_tellFormula 2 none :: TBL) B.pre
  have hown : s.vm.findClass RXB = some m.cls := findClass_of_methodNamed B.named
  have hlocks := B.notSynchronized
  subst hsz
  obtain ⟨A, hAe⟩ : ∃ A, A = va_A [(ba, .inr (0, [.ref bt, .ref bp, .ref bl, .ref bh, .ref bq, .ref br, .ref bd, .int (jI bg), .int (jI bf)]))] s.heap.size := ⟨_, rfl⟩
  have hD : va_D A [(ba, .inr (0, [.ref bt, .ref bp, .ref bl, .ref bh, .ref bq, .ref br, .ref bd, .int (jI bg), .int (jI bf)]))] := by rw [hAe]; exact hD0.self
  have hA : ∀ q : Nat, s.heap.size ≤ q → A q := fun q h => by rw [hAe]; exact Or.inr h
  have hS : va_S A s.heap s.heap [] := va_S.rf
  have hP : va_P (dC, dI) vwCl [(ba, .inr (0, [.ref bt, .ref bp, .ref bl, .ref bh, .ref bq, .ref br, .ref bd, .int (jI bg), .int (jI bf)]))] s.heap := hP
  have hl := lv_entry ([.ref ba, .int (jI zk)]) (n := 2) (Nat.le_of_ble_eq_true rfl)
  rw [lg_entry_eq]
  generalize (lg_sl ([.ref ba, .int (jI zk)]) ++ List.replicate (2 - (lg_sl ([.ref ba, .int (jI zk)])).length) Slot.unset).toArray = ls at hl ⊢
  have hl : lv_has ls 2 [(0, .ref ba), (1, .int (jI zk))] := hl
  have q1 := jpow_pos zk
  refine lv_aload_n hx hb dXB_tellFormula_0 rfl (lv_at hl 0 rfl) ?_
  refine lv_dup hx hb dXB_tellFormula_1 rfl ?_
  refine va_get (D := (dC, dI)) (ci := 0) (v := .int (jI bf)) (C := RXB) (T := TXB) (N := 9) hx hb hts (fun w h => jmem (inXB w h)) hown hK hP 0 rfl rfl 8 (by decide) (hts _ (jmem tw_81)) (fun _ h9 => h9) rfl dXB_tellFormula_2 ?_
  refine ji_iconst hx hb dXB_tellFormula_5 ?_
  refine lv_iload_n hx hb dXB_tellFormula_6 rfl (lv_at hl 1 rfl) ?_
  refine ji_ishl1 hx hb dXB_tellFormula_7 (by omega) (by omega) ?_
  refine ji_ior hx hb dXB_tellFormula_8 (by omega) (by omega) ?_
  refine va_put (D := (dC, dI)) (ci := 0) (v := .int (jI (jor bf (jpow zk)))) (ty := (.int)) (C := RXB) (T := TXB) (N := 9) hx hb hts (fun w h => jmem (inXB w h)) tyXB tyXB_ok nXB hown hK hP hD hS 0 rfl rfl 8 (by decide) (hts _ (jmem tw_81)) (fun _ h9 => h9) rfl (by decide +kernel) rfl rfl (Nat.le_of_ble_eq_true rfl) dXB_tellFormula_9 (fun H locs hP hD hS => ?_)
  have hP : va_P (dC, dI) vwCl [(ba, .inr (0, [.ref bt, .ref bp, .ref bl, .ref bh, .ref bq, .ref br, .ref bd, .int (jI bg), .int (jI (jor bf (jpow zk)))]))] H := hP
  have hD : va_D A [(ba, .inr (0, [.ref bt, .ref bp, .ref bl, .ref bh, .ref bq, .ref br, .ref bd, .int (jI bg), .int (jI (jor bf (jpow zk)))]))] := hD
  have hP9 := hP.sub (ws' := [(ba, .inr (0, [.ref bt, .ref bp, .ref bl, .ref bh, .ref bq, .ref br, .ref bd, .int (jI bg), .int (jI (jor bf (jpow zk)))]))]) [0] rfl
  have hD9 := hD.sub (ws' := [(ba, .inr (0, [.ref bt, .ref bp, .ref bl, .ref bh, .ref bq, .ref br, .ref bd, .int (jI bg), .int (jI (jor bf (jpow zk)))]))]) [0] (by decide) rfl
  subst hAe
  subst hQ
  exact W.vret hx hb hr (fun t ht hW => ⟨⟨(jor bf (jpow zk)), rfl, Eq.trans (by rw [f_XB_tellFormula_s]; try rfl) rfl, ⟨by rw [ht]; exact hP9, va_K.moved hW.alike hK, hD9⟩⟩, hS.F ht⟩) hS.2.2 dXB_tellFormula_12
noncomputable def g_XB_tellTerm (bg : Int) (bf : Int) (fd : Int → Int) (zk : Int) (ze : Int) (zd : Int) : (Int → Int) :=
  jset fd ((zk * 8) + ze) zd
noncomputable def f_XB_tellTerm : Int → Int → (Int → Int) → Int → Int → Int → (Int → Int) := jopq g_XB_tellTerm
theorem f_XB_tellTerm_q : f_XB_tellTerm = g_XB_tellTerm := jopq_eq _
theorem f_XB_tellTerm_s (bg : Int) (bf : Int) (fd : Int → Int) (zk : Int) (ze : Int) (zd : Int) : f_XB_tellTerm bg bf fd zk ze zd = (
    jset fd ((zk * 8) + ze) zd
  ) := by rw [f_XB_tellTerm_q]; rfl
theorem f_XB_tellTerm_b (bg : Int) (bf : Int) (fd : Int → Int) (zk : Int) (ze : Int) (zd : Int) (hbd : ∀ i, 0 ≤ fd i ∧ fd i ≤ 20) (hzk : 0 ≤ zk ∧ zk < 4) (hze : 0 ≤ ze ∧ ze < 8) (hzd : 1 ≤ zd ∧ zd ≤ 20) : ∀ i, 0 ≤ (f_XB_tellTerm bg bf fd zk ze zd) i ∧ (f_XB_tellTerm bg bf fd zk ze zd) i ≤ 20 := by
  intro i
  rw [f_XB_tellTerm_s]
  unfold jset
  split
  · omega
  · exact hbd i
set_option maxHeartbeats 4000000 in
set_option maxRecDepth 100000 in
theorem c_XB_tellTerm (l : Launch) (dC : Nat → ClassId) (dI : Nat → Nat → Nat) (cA : ClassId) (sz : Nat) (ba : Nat) (bt : Nat) (bp : Nat) (bl : Nat) (bh : Nat) (bq : Nat) (br : Nat) (bd : Nat) (bg : Int) (bf : Int) (fd : Int → Int) (zk : Int) (ze : Int) (zd : Int) (hbd : ∀ i, 0 ≤ fd i ∧ fd i ≤ 20) (hzk : 0 ≤ zk ∧ zk < 4) (hze : 0 ≤ ze ∧ ze < 8) (hzd : 1 ≤ zd ∧ zd ≤ 20) : Met l yXB_tellTerm (Cond.code yXB_tellTerm cXB_tellTerm 4 none :: TBL) ({ frames := 0, cells := 0, slots := 0, locals := 0 } : Room) (va_Pc [.ref ba, .int (jI zk), .int (jI ze), .int (jI zd)] (jBw (dC, dI) [(cA, .int)] [(ba, .inr (0, [.ref bt, .ref bp, .ref bl, .ref bh, .ref bq, .ref br, .ref bd, .int (jI bg), .int (jI bf)])), (bd, .inl (cA, 32, .inl (jA fd)))] sz)) (va_Qv (fun (u : (Int → Int)) => u = f_XB_tellTerm bg bf fd zk ze zd) (fun u t => jE (dC, dI) [(cA, .int)] [(ba, .inr (0, [.ref bt, .ref bp, .ref bl, .ref bh, .ref bq, .ref br, .ref bd, .int (jI bg), .int (jI bf)])), (bd, .inl (cA, 32, .inl (jA fd)))] sz [(ba, .inr (0, [.ref bt, .ref bp, .ref bl, .ref bh, .ref bq, .ref br, .ref bd, .int (jI bg), .int (jI bf)])), (bd, .inl (cA, 32, .inl (jA u)))] t) (va_A [(ba, .inr (0, [.ref bt, .ref bp, .ref bl, .ref bh, .ref bq, .ref br, .ref bd, .int (jI bg), .int (jI bf)])), (bd, .inl (cA, 32, .inl (jA fd)))] sz)) 0 0 (va_A [(ba, .inr (0, [.ref bt, .ref bp, .ref bl, .ref bh, .ref bq, .ref br, .ref bd, .int (jI bg), .int (jI bf)])), (bd, .inl (cA, 32, .inl (jA fd)))] sz) := by
  refine jMet (cc := cXB_tellTerm) (maxL := 4) (ret := none) (by decide) rfl ?_
  intro p e s m args below meth c s₁ R Q hR hQ B hml hv
  obtain ⟨rfl, hsz, hP, hK, hD0, hN⟩ := hv
  have hx := B.exec
  have hb := B.bytes
  have hr := B.returns
  have hts := atoms_spec (ws := Cond.code yXB_tellTerm cXB_tellTerm 4 none :: TBL) B.pre
  have hown : s.vm.findClass RXB = some m.cls := findClass_of_methodNamed B.named
  have hlocks := B.notSynchronized
  subst hsz
  obtain ⟨A, hAe⟩ : ∃ A, A = va_A [(ba, .inr (0, [.ref bt, .ref bp, .ref bl, .ref bh, .ref bq, .ref br, .ref bd, .int (jI bg), .int (jI bf)])), (bd, .inl (cA, 32, .inl (jA fd)))] s.heap.size := ⟨_, rfl⟩
  have hD : va_D A [(ba, .inr (0, [.ref bt, .ref bp, .ref bl, .ref bh, .ref bq, .ref br, .ref bd, .int (jI bg), .int (jI bf)])), (bd, .inl (cA, 32, .inl (jA fd)))] := by rw [hAe]; exact hD0.self
  have hA : ∀ q : Nat, s.heap.size ≤ q → A q := fun q h => by rw [hAe]; exact Or.inr h
  have hS : va_S A s.heap s.heap [] := va_S.rf
  have hP : va_P (dC, dI) vwCl [(ba, .inr (0, [.ref bt, .ref bp, .ref bl, .ref bh, .ref bq, .ref br, .ref bd, .int (jI bg), .int (jI bf)])), (bd, .inl (cA, 32, .inl (jA fd)))] s.heap := hP
  have hl := lv_entry ([.ref ba, .int (jI zk), .int (jI ze), .int (jI zd)]) (n := 4) (Nat.le_of_ble_eq_true rfl)
  rw [lg_entry_eq]
  generalize (lg_sl ([.ref ba, .int (jI zk), .int (jI ze), .int (jI zd)]) ++ List.replicate (4 - (lg_sl ([.ref ba, .int (jI zk), .int (jI ze), .int (jI zd)])).length) Slot.unset).toArray = ls at hl ⊢
  have hl : lv_has ls 4 [(0, .ref ba), (1, .int (jI zk)), (2, .int (jI ze)), (3, .int (jI zd))] := hl
  refine lv_aload_n hx hb dXB_tellTerm_0 rfl (lv_at hl 0 rfl) ?_
  refine va_get (D := (dC, dI)) (ci := 0) (v := .ref bd) (C := RXB) (T := TXB) (N := 9) hx hb hts (fun w h => jmem (inXB w h)) hown hK hP 0 rfl rfl 6 (by decide) (hts _ (jmem tw_79)) (fun _ h9 => h9) rfl dXB_tellTerm_1 ?_
  refine lv_iload_n hx hb dXB_tellTerm_4 rfl (lv_at hl 1 rfl) ?_
  refine ji_bipush hx hb dXB_tellTerm_5 (by decide) ?_
  refine ji_imul hx hb dXB_tellTerm_7 ?_
  refine lv_iload_n hx hb dXB_tellTerm_8 rfl (lv_at hl 2 rfl) ?_
  refine ji_iadd hx hb dXB_tellTerm_9 ?_
  refine lv_iload_n hx hb dXB_tellTerm_10 rfl (lv_at hl 3 rfl) ?_
  refine ji_iast hx hb hK hP hD hS 1 0 rfl rfl ⟨by omega, by omega⟩ (by decide) dXB_tellTerm_11 (fun H locs hP hD hS => ?_)
  have hP : va_P (dC, dI) vwCl [(ba, .inr (0, [.ref bt, .ref bp, .ref bl, .ref bh, .ref bq, .ref br, .ref bd, .int (jI bg), .int (jI bf)])), (bd, .inl (cA, 32, .inl (jA (jset fd ((zk * 8) + ze) zd))))] H := hP
  have hD : va_D A [(ba, .inr (0, [.ref bt, .ref bp, .ref bl, .ref bh, .ref bq, .ref br, .ref bd, .int (jI bg), .int (jI bf)])), (bd, .inl (cA, 32, .inl (jA (jset fd ((zk * 8) + ze) zd))))] := hD
  have hP9 := hP.sub (ws' := [(ba, .inr (0, [.ref bt, .ref bp, .ref bl, .ref bh, .ref bq, .ref br, .ref bd, .int (jI bg), .int (jI bf)])), (bd, .inl (cA, 32, .inl (jA (jset fd ((zk * 8) + ze) zd))))]) [0, 1] rfl
  have hD9 := hD.sub (ws' := [(ba, .inr (0, [.ref bt, .ref bp, .ref bl, .ref bh, .ref bq, .ref br, .ref bd, .int (jI bg), .int (jI bf)])), (bd, .inl (cA, 32, .inl (jA (jset fd ((zk * 8) + ze) zd))))]) [0, 1] (by decide) rfl
  subst hAe
  subst hQ
  exact W.vret hx hb hr (fun t ht hW => ⟨⟨(jset fd ((zk * 8) + ze) zd), rfl, Eq.trans (by rw [f_XB_tellTerm_s]; try rfl) rfl, ⟨by rw [ht]; exact hP9, va_K.moved hW.alike hK, hD9⟩⟩, hS.F ht⟩) hS.2.2 dXB_tellTerm_12
noncomputable def g_XB_tellGrade (bg : Int) (bf : Int) (zg : Int) : Int :=
  jor bg (jpow zg)
noncomputable def f_XB_tellGrade : Int → Int → Int → Int := jopq g_XB_tellGrade
theorem f_XB_tellGrade_q : f_XB_tellGrade = g_XB_tellGrade := jopq_eq _
theorem f_XB_tellGrade_s (bg : Int) (bf : Int) (zg : Int) : f_XB_tellGrade bg bf zg = (
    jor bg (jpow zg)
  ) := by rw [f_XB_tellGrade_q]; rfl
theorem f_XB_tellGrade_b (bg : Int) (bf : Int) (zg : Int) (hbg : 0 ≤ bg ∧ bg < 2147483648) (hzg : 0 ≤ zg ∧ zg ≤ 30) : 0 ≤ (f_XB_tellGrade bg bf zg) ∧ (f_XB_tellGrade bg bf zg) < 2147483648 := by rw [f_XB_tellGrade_s]; exact ⟨jor_nn _ _, jor_lt hbg.2 (jpow_lt (by omega))⟩
set_option maxHeartbeats 4000000 in
set_option maxRecDepth 100000 in
theorem c_XB_tellGrade (l : Launch) (dC : Nat → ClassId) (dI : Nat → Nat → Nat) (cA : ClassId) (sz : Nat) (ba : Nat) (bt : Nat) (bp : Nat) (bl : Nat) (bh : Nat) (bq : Nat) (br : Nat) (bd : Nat) (bg : Int) (bf : Int) (zg : Int) (hbg : 0 ≤ bg ∧ bg < 2147483648) (hzg : 0 ≤ zg ∧ zg ≤ 30) : Met l yXB_tellGrade (Cond.code yXB_tellGrade cXB_tellGrade 2 none :: TBL) ({ frames := 0, cells := 0, slots := 0, locals := 0 } : Room) (va_Pc [.ref ba, .int (jI zg)] (jBw (dC, dI) [(cA, .int)] [(ba, .inr (0, [.ref bt, .ref bp, .ref bl, .ref bh, .ref bq, .ref br, .ref bd, .int (jI bg), .int (jI bf)]))] sz)) (va_Qv (fun (u : Int) => u = f_XB_tellGrade bg bf zg) (fun u t => jE (dC, dI) [(cA, .int)] [(ba, .inr (0, [.ref bt, .ref bp, .ref bl, .ref bh, .ref bq, .ref br, .ref bd, .int (jI bg), .int (jI bf)]))] sz [(ba, .inr (0, [.ref bt, .ref bp, .ref bl, .ref bh, .ref bq, .ref br, .ref bd, .int (jI u), .int (jI bf)]))] t) (va_A [(ba, .inr (0, [.ref bt, .ref bp, .ref bl, .ref bh, .ref bq, .ref br, .ref bd, .int (jI bg), .int (jI bf)]))] sz)) 0 0 (va_A [(ba, .inr (0, [.ref bt, .ref bp, .ref bl, .ref bh, .ref bq, .ref br, .ref bd, .int (jI bg), .int (jI bf)]))] sz) := by
  refine jMet (cc := cXB_tellGrade) (maxL := 2) (ret := none) (by decide) rfl ?_
  intro p e s m args below meth c s₁ R Q hR hQ B hml hv
  obtain ⟨rfl, hsz, hP, hK, hD0, hN⟩ := hv
  have hx := B.exec
  have hb := B.bytes
  have hr := B.returns
  have hts := atoms_spec (ws := Cond.code yXB_tellGrade cXB_tellGrade 2 none :: TBL) B.pre
  have hown : s.vm.findClass RXB = some m.cls := findClass_of_methodNamed B.named
  have hlocks := B.notSynchronized
  subst hsz
  obtain ⟨A, hAe⟩ : ∃ A, A = va_A [(ba, .inr (0, [.ref bt, .ref bp, .ref bl, .ref bh, .ref bq, .ref br, .ref bd, .int (jI bg), .int (jI bf)]))] s.heap.size := ⟨_, rfl⟩
  have hD : va_D A [(ba, .inr (0, [.ref bt, .ref bp, .ref bl, .ref bh, .ref bq, .ref br, .ref bd, .int (jI bg), .int (jI bf)]))] := by rw [hAe]; exact hD0.self
  have hA : ∀ q : Nat, s.heap.size ≤ q → A q := fun q h => by rw [hAe]; exact Or.inr h
  have hS : va_S A s.heap s.heap [] := va_S.rf
  have hP : va_P (dC, dI) vwCl [(ba, .inr (0, [.ref bt, .ref bp, .ref bl, .ref bh, .ref bq, .ref br, .ref bd, .int (jI bg), .int (jI bf)]))] s.heap := hP
  have hl := lv_entry ([.ref ba, .int (jI zg)]) (n := 2) (Nat.le_of_ble_eq_true rfl)
  rw [lg_entry_eq]
  generalize (lg_sl ([.ref ba, .int (jI zg)]) ++ List.replicate (2 - (lg_sl ([.ref ba, .int (jI zg)])).length) Slot.unset).toArray = ls at hl ⊢
  have hl : lv_has ls 2 [(0, .ref ba), (1, .int (jI zg))] := hl
  have q1 := jpow_pos zg
  refine lv_aload_n hx hb dXB_tellGrade_0 rfl (lv_at hl 0 rfl) ?_
  refine lv_dup hx hb dXB_tellGrade_1 rfl ?_
  refine va_get (D := (dC, dI)) (ci := 0) (v := .int (jI bg)) (C := RXB) (T := TXB) (N := 9) hx hb hts (fun w h => jmem (inXB w h)) hown hK hP 0 rfl rfl 7 (by decide) (hts _ (jmem tw_80)) (fun _ h9 => h9) rfl dXB_tellGrade_2 ?_
  refine ji_iconst hx hb dXB_tellGrade_5 ?_
  refine lv_iload_n hx hb dXB_tellGrade_6 rfl (lv_at hl 1 rfl) ?_
  refine ji_ishl1 hx hb dXB_tellGrade_7 (by omega) (by omega) ?_
  refine ji_ior hx hb dXB_tellGrade_8 (by omega) (by omega) ?_
  refine va_put (D := (dC, dI)) (ci := 0) (v := .int (jI (jor bg (jpow zg)))) (ty := (.int)) (C := RXB) (T := TXB) (N := 9) hx hb hts (fun w h => jmem (inXB w h)) tyXB tyXB_ok nXB hown hK hP hD hS 0 rfl rfl 7 (by decide) (hts _ (jmem tw_80)) (fun _ h9 => h9) rfl (by decide +kernel) rfl rfl (Nat.le_of_ble_eq_true rfl) dXB_tellGrade_9 (fun H locs hP hD hS => ?_)
  have hP : va_P (dC, dI) vwCl [(ba, .inr (0, [.ref bt, .ref bp, .ref bl, .ref bh, .ref bq, .ref br, .ref bd, .int (jI (jor bg (jpow zg))), .int (jI bf)]))] H := hP
  have hD : va_D A [(ba, .inr (0, [.ref bt, .ref bp, .ref bl, .ref bh, .ref bq, .ref br, .ref bd, .int (jI (jor bg (jpow zg))), .int (jI bf)]))] := hD
  have hP9 := hP.sub (ws' := [(ba, .inr (0, [.ref bt, .ref bp, .ref bl, .ref bh, .ref bq, .ref br, .ref bd, .int (jI (jor bg (jpow zg))), .int (jI bf)]))]) [0] rfl
  have hD9 := hD.sub (ws' := [(ba, .inr (0, [.ref bt, .ref bp, .ref bl, .ref bh, .ref bq, .ref br, .ref bd, .int (jI (jor bg (jpow zg))), .int (jI bf)]))]) [0] (by decide) rfl
  subst hAe
  subst hQ
  exact W.vret hx hb hr (fun t ht hW => ⟨⟨(jor bg (jpow zg)), rfl, Eq.trans (by rw [f_XB_tellGrade_s]; try rfl) rfl, ⟨by rw [ht]; exact hP9, va_K.moved hW.alike hK, hD9⟩⟩, hS.F ht⟩) hS.2.2 dXB_tellGrade_12
noncomputable def g_XB_tellParent (bg : Int) (bf : Int) (ft : Int → Int) (zg : Int) (zp : Int) : (Int → Int) :=
  jset ft zg zp
noncomputable def f_XB_tellParent : Int → Int → (Int → Int) → Int → Int → (Int → Int) := jopq g_XB_tellParent
theorem f_XB_tellParent_q : f_XB_tellParent = g_XB_tellParent := jopq_eq _
theorem f_XB_tellParent_s (bg : Int) (bf : Int) (ft : Int → Int) (zg : Int) (zp : Int) : f_XB_tellParent bg bf ft zg zp = (
    jset ft zg zp
  ) := by rw [f_XB_tellParent_q]; rfl
theorem f_XB_tellParent_b (bg : Int) (bf : Int) (ft : Int → Int) (zg : Int) (zp : Int) (hbt : ∀ i, 0 ≤ ft i ∧ ft i ≤ 30) (hzg : 0 ≤ zg ∧ zg ≤ 30) (hzp : 0 ≤ zp ∧ zp ≤ 30) : ∀ i, 0 ≤ (f_XB_tellParent bg bf ft zg zp) i ∧ (f_XB_tellParent bg bf ft zg zp) i ≤ 30 := by
  intro i
  rw [f_XB_tellParent_s]
  unfold jset
  split
  · omega
  · exact hbt i
set_option maxHeartbeats 4000000 in
set_option maxRecDepth 100000 in
theorem c_XB_tellParent (l : Launch) (dC : Nat → ClassId) (dI : Nat → Nat → Nat) (cA : ClassId) (sz : Nat) (ba : Nat) (bt : Nat) (bp : Nat) (bl : Nat) (bh : Nat) (bq : Nat) (br : Nat) (bd : Nat) (bg : Int) (bf : Int) (ft : Int → Int) (zg : Int) (zp : Int) (hbt : ∀ i, 0 ≤ ft i ∧ ft i ≤ 30) (hzg : 0 ≤ zg ∧ zg ≤ 30) (hzp : 0 ≤ zp ∧ zp ≤ 30) : Met l yXB_tellParent (Cond.code yXB_tellParent cXB_tellParent 3 none :: TBL) ({ frames := 0, cells := 0, slots := 0, locals := 0 } : Room) (va_Pc [.ref ba, .int (jI zg), .int (jI zp)] (jBw (dC, dI) [(cA, .int)] [(ba, .inr (0, [.ref bt, .ref bp, .ref bl, .ref bh, .ref bq, .ref br, .ref bd, .int (jI bg), .int (jI bf)])), (bt, .inl (cA, 31, .inl (jA ft)))] sz)) (va_Qv (fun (u : (Int → Int)) => u = f_XB_tellParent bg bf ft zg zp) (fun u t => jE (dC, dI) [(cA, .int)] [(ba, .inr (0, [.ref bt, .ref bp, .ref bl, .ref bh, .ref bq, .ref br, .ref bd, .int (jI bg), .int (jI bf)])), (bt, .inl (cA, 31, .inl (jA ft)))] sz [(ba, .inr (0, [.ref bt, .ref bp, .ref bl, .ref bh, .ref bq, .ref br, .ref bd, .int (jI bg), .int (jI bf)])), (bt, .inl (cA, 31, .inl (jA u)))] t) (va_A [(ba, .inr (0, [.ref bt, .ref bp, .ref bl, .ref bh, .ref bq, .ref br, .ref bd, .int (jI bg), .int (jI bf)])), (bt, .inl (cA, 31, .inl (jA ft)))] sz)) 0 0 (va_A [(ba, .inr (0, [.ref bt, .ref bp, .ref bl, .ref bh, .ref bq, .ref br, .ref bd, .int (jI bg), .int (jI bf)])), (bt, .inl (cA, 31, .inl (jA ft)))] sz) := by
  refine jMet (cc := cXB_tellParent) (maxL := 3) (ret := none) (by decide) rfl ?_
  intro p e s m args below meth c s₁ R Q hR hQ B hml hv
  obtain ⟨rfl, hsz, hP, hK, hD0, hN⟩ := hv
  have hx := B.exec
  have hb := B.bytes
  have hr := B.returns
  have hts := atoms_spec (ws := Cond.code yXB_tellParent cXB_tellParent 3 none :: TBL) B.pre
  have hown : s.vm.findClass RXB = some m.cls := findClass_of_methodNamed B.named
  have hlocks := B.notSynchronized
  subst hsz
  obtain ⟨A, hAe⟩ : ∃ A, A = va_A [(ba, .inr (0, [.ref bt, .ref bp, .ref bl, .ref bh, .ref bq, .ref br, .ref bd, .int (jI bg), .int (jI bf)])), (bt, .inl (cA, 31, .inl (jA ft)))] s.heap.size := ⟨_, rfl⟩
  have hD : va_D A [(ba, .inr (0, [.ref bt, .ref bp, .ref bl, .ref bh, .ref bq, .ref br, .ref bd, .int (jI bg), .int (jI bf)])), (bt, .inl (cA, 31, .inl (jA ft)))] := by rw [hAe]; exact hD0.self
  have hA : ∀ q : Nat, s.heap.size ≤ q → A q := fun q h => by rw [hAe]; exact Or.inr h
  have hS : va_S A s.heap s.heap [] := va_S.rf
  have hP : va_P (dC, dI) vwCl [(ba, .inr (0, [.ref bt, .ref bp, .ref bl, .ref bh, .ref bq, .ref br, .ref bd, .int (jI bg), .int (jI bf)])), (bt, .inl (cA, 31, .inl (jA ft)))] s.heap := hP
  have hl := lv_entry ([.ref ba, .int (jI zg), .int (jI zp)]) (n := 3) (Nat.le_of_ble_eq_true rfl)
  rw [lg_entry_eq]
  generalize (lg_sl ([.ref ba, .int (jI zg), .int (jI zp)]) ++ List.replicate (3 - (lg_sl ([.ref ba, .int (jI zg), .int (jI zp)])).length) Slot.unset).toArray = ls at hl ⊢
  have hl : lv_has ls 3 [(0, .ref ba), (1, .int (jI zg)), (2, .int (jI zp))] := hl
  refine lv_aload_n hx hb dXB_tellParent_0 rfl (lv_at hl 0 rfl) ?_
  refine va_get (D := (dC, dI)) (ci := 0) (v := .ref bt) (C := RXB) (T := TXB) (N := 9) hx hb hts (fun w h => jmem (inXB w h)) hown hK hP 0 rfl rfl 0 (by decide) (hts _ (jmem tw_73)) (fun _ h9 => h9) rfl dXB_tellParent_1 ?_
  refine lv_iload_n hx hb dXB_tellParent_4 rfl (lv_at hl 1 rfl) ?_
  refine lv_iload_n hx hb dXB_tellParent_5 rfl (lv_at hl 2 rfl) ?_
  refine ji_iast hx hb hK hP hD hS 1 0 rfl rfl ⟨by omega, by omega⟩ (by decide) dXB_tellParent_6 (fun H locs hP hD hS => ?_)
  have hP : va_P (dC, dI) vwCl [(ba, .inr (0, [.ref bt, .ref bp, .ref bl, .ref bh, .ref bq, .ref br, .ref bd, .int (jI bg), .int (jI bf)])), (bt, .inl (cA, 31, .inl (jA (jset ft zg zp))))] H := hP
  have hD : va_D A [(ba, .inr (0, [.ref bt, .ref bp, .ref bl, .ref bh, .ref bq, .ref br, .ref bd, .int (jI bg), .int (jI bf)])), (bt, .inl (cA, 31, .inl (jA (jset ft zg zp))))] := hD
  have hP9 := hP.sub (ws' := [(ba, .inr (0, [.ref bt, .ref bp, .ref bl, .ref bh, .ref bq, .ref br, .ref bd, .int (jI bg), .int (jI bf)])), (bt, .inl (cA, 31, .inl (jA (jset ft zg zp))))]) [0, 1] rfl
  have hD9 := hD.sub (ws' := [(ba, .inr (0, [.ref bt, .ref bp, .ref bl, .ref bh, .ref bq, .ref br, .ref bd, .int (jI bg), .int (jI bf)])), (bt, .inl (cA, 31, .inl (jA (jset ft zg zp))))]) [0, 1] (by decide) rfl
  subst hAe
  subst hQ
  exact W.vret hx hb hr (fun t ht hW => ⟨⟨(jset ft zg zp), rfl, Eq.trans (by rw [f_XB_tellParent_s]; try rfl) rfl, ⟨by rw [ht]; exact hP9, va_K.moved hW.alike hK, hD9⟩⟩, hS.F ht⟩) hS.2.2 dXB_tellParent_7
noncomputable def g_XB_tellSpan (bg : Int) (bf : Int) (fl : Int → Int) (fh : Int → Int) (zg : Int) (ze : Int) (zlo : Int) (zhi : Int) : (Int → Int) × (Int → Int) :=
  (jset fl ((zg * 8) + ze) zlo, jset fh ((zg * 8) + ze) zhi)
noncomputable def f_XB_tellSpan : Int → Int → (Int → Int) → (Int → Int) → Int → Int → Int → Int → (Int → Int) × (Int → Int) := jopq g_XB_tellSpan
theorem f_XB_tellSpan_q : f_XB_tellSpan = g_XB_tellSpan := jopq_eq _
theorem f_XB_tellSpan_s (bg : Int) (bf : Int) (fl : Int → Int) (fh : Int → Int) (zg : Int) (ze : Int) (zlo : Int) (zhi : Int) : f_XB_tellSpan bg bf fl fh zg ze zlo zhi = (
    (jset fl ((zg * 8) + ze) zlo, jset fh ((zg * 8) + ze) zhi)
  ) := by rw [f_XB_tellSpan_q]; rfl
theorem f_XB_tellSpan_l (bg : Int) (bf : Int) (fl : Int → Int) (fh : Int → Int) (zg : Int) (ze : Int) (zlo : Int) (zhi : Int) (hbl : ∀ i, 0 ≤ fl i ∧ fl i ≤ 100000) (hbh : ∀ i, -1 ≤ fh i ∧ fh i ≤ 100000) (hzg : 0 ≤ zg ∧ zg ≤ 30) (hze : 0 ≤ ze ∧ ze < 8) (hzlo : 0 ≤ zlo ∧ zlo ≤ 100000) (hzhi : 0 ≤ zhi ∧ zhi ≤ 100000) : ∀ i, 0 ≤ (f_XB_tellSpan bg bf fl fh zg ze zlo zhi).1 i ∧ (f_XB_tellSpan bg bf fl fh zg ze zlo zhi).1 i ≤ 100000 := by
  intro i
  rw [f_XB_tellSpan_s]
  dsimp only
  unfold jset
  split
  · omega
  · exact hbl i
theorem f_XB_tellSpan_h (bg : Int) (bf : Int) (fl : Int → Int) (fh : Int → Int) (zg : Int) (ze : Int) (zlo : Int) (zhi : Int) (hbl : ∀ i, 0 ≤ fl i ∧ fl i ≤ 100000) (hbh : ∀ i, -1 ≤ fh i ∧ fh i ≤ 100000) (hzg : 0 ≤ zg ∧ zg ≤ 30) (hze : 0 ≤ ze ∧ ze < 8) (hzlo : 0 ≤ zlo ∧ zlo ≤ 100000) (hzhi : 0 ≤ zhi ∧ zhi ≤ 100000) : ∀ i, -1 ≤ (f_XB_tellSpan bg bf fl fh zg ze zlo zhi).2 i ∧ (f_XB_tellSpan bg bf fl fh zg ze zlo zhi).2 i ≤ 100000 := by
  intro i
  rw [f_XB_tellSpan_s]
  dsimp only
  unfold jset
  split
  · omega
  · exact hbh i
set_option maxHeartbeats 4000000 in
set_option maxRecDepth 100000 in
theorem c_XB_tellSpan (l : Launch) (dC : Nat → ClassId) (dI : Nat → Nat → Nat) (cA : ClassId) (sz : Nat) (ba : Nat) (bt : Nat) (bp : Nat) (bl : Nat) (bh : Nat) (bq : Nat) (br : Nat) (bd : Nat) (bg : Int) (bf : Int) (fl : Int → Int) (fh : Int → Int) (zg : Int) (ze : Int) (zlo : Int) (zhi : Int) (hbl : ∀ i, 0 ≤ fl i ∧ fl i ≤ 100000) (hbh : ∀ i, -1 ≤ fh i ∧ fh i ≤ 100000) (hzg : 0 ≤ zg ∧ zg ≤ 30) (hze : 0 ≤ ze ∧ ze < 8) (hzlo : 0 ≤ zlo ∧ zlo ≤ 100000) (hzhi : 0 ≤ zhi ∧ zhi ≤ 100000) : Met l yXB_tellSpan (Cond.code yXB_tellSpan cXB_tellSpan 5 none :: TBL) ({ frames := 0, cells := 0, slots := 0, locals := 0 } : Room) (va_Pc [.ref ba, .int (jI zg), .int (jI ze), .int (jI zlo), .int (jI zhi)] (jBw (dC, dI) [(cA, .int)] [(ba, .inr (0, [.ref bt, .ref bp, .ref bl, .ref bh, .ref bq, .ref br, .ref bd, .int (jI bg), .int (jI bf)])), (bl, .inl (cA, 248, .inl (jA fl))), (bh, .inl (cA, 248, .inl (jA fh)))] sz)) (va_Qv (fun (u : (Int → Int) × (Int → Int)) => u = f_XB_tellSpan bg bf fl fh zg ze zlo zhi) (fun u t => jE (dC, dI) [(cA, .int)] [(ba, .inr (0, [.ref bt, .ref bp, .ref bl, .ref bh, .ref bq, .ref br, .ref bd, .int (jI bg), .int (jI bf)])), (bl, .inl (cA, 248, .inl (jA fl))), (bh, .inl (cA, 248, .inl (jA fh)))] sz [(ba, .inr (0, [.ref bt, .ref bp, .ref bl, .ref bh, .ref bq, .ref br, .ref bd, .int (jI bg), .int (jI bf)])), (bl, .inl (cA, 248, .inl (jA u.1))), (bh, .inl (cA, 248, .inl (jA u.2)))] t) (va_A [(ba, .inr (0, [.ref bt, .ref bp, .ref bl, .ref bh, .ref bq, .ref br, .ref bd, .int (jI bg), .int (jI bf)])), (bl, .inl (cA, 248, .inl (jA fl))), (bh, .inl (cA, 248, .inl (jA fh)))] sz)) 0 0 (va_A [(ba, .inr (0, [.ref bt, .ref bp, .ref bl, .ref bh, .ref bq, .ref br, .ref bd, .int (jI bg), .int (jI bf)])), (bl, .inl (cA, 248, .inl (jA fl))), (bh, .inl (cA, 248, .inl (jA fh)))] sz) := by
  refine jMet (cc := cXB_tellSpan) (maxL := 5) (ret := none) (by decide) rfl ?_
  intro p e s m args below meth c s₁ R Q hR hQ B hml hv
  obtain ⟨rfl, hsz, hP, hK, hD0, hN⟩ := hv
  have hx := B.exec
  have hb := B.bytes
  have hr := B.returns
  have hts := atoms_spec (ws := Cond.code yXB_tellSpan cXB_tellSpan 5 none :: TBL) B.pre
  have hown : s.vm.findClass RXB = some m.cls := findClass_of_methodNamed B.named
  have hlocks := B.notSynchronized
  subst hsz
  obtain ⟨A, hAe⟩ : ∃ A, A = va_A [(ba, .inr (0, [.ref bt, .ref bp, .ref bl, .ref bh, .ref bq, .ref br, .ref bd, .int (jI bg), .int (jI bf)])), (bl, .inl (cA, 248, .inl (jA fl))), (bh, .inl (cA, 248, .inl (jA fh)))] s.heap.size := ⟨_, rfl⟩
  have hD : va_D A [(ba, .inr (0, [.ref bt, .ref bp, .ref bl, .ref bh, .ref bq, .ref br, .ref bd, .int (jI bg), .int (jI bf)])), (bl, .inl (cA, 248, .inl (jA fl))), (bh, .inl (cA, 248, .inl (jA fh)))] := by rw [hAe]; exact hD0.self
  have hA : ∀ q : Nat, s.heap.size ≤ q → A q := fun q h => by rw [hAe]; exact Or.inr h
  have hS : va_S A s.heap s.heap [] := va_S.rf
  have hP : va_P (dC, dI) vwCl [(ba, .inr (0, [.ref bt, .ref bp, .ref bl, .ref bh, .ref bq, .ref br, .ref bd, .int (jI bg), .int (jI bf)])), (bl, .inl (cA, 248, .inl (jA fl))), (bh, .inl (cA, 248, .inl (jA fh)))] s.heap := hP
  have hl := lv_entry ([.ref ba, .int (jI zg), .int (jI ze), .int (jI zlo), .int (jI zhi)]) (n := 5) (Nat.le_of_ble_eq_true rfl)
  rw [lg_entry_eq]
  generalize (lg_sl ([.ref ba, .int (jI zg), .int (jI ze), .int (jI zlo), .int (jI zhi)]) ++ List.replicate (5 - (lg_sl ([.ref ba, .int (jI zg), .int (jI ze), .int (jI zlo), .int (jI zhi)])).length) Slot.unset).toArray = ls at hl ⊢
  have hl : lv_has ls 5 [(0, .ref ba), (1, .int (jI zg)), (2, .int (jI ze)), (3, .int (jI zlo)), (4, .int (jI zhi))] := hl
  refine lv_aload_n hx hb dXB_tellSpan_0 rfl (lv_at hl 0 rfl) ?_
  refine va_get (D := (dC, dI)) (ci := 0) (v := .ref bl) (C := RXB) (T := TXB) (N := 9) hx hb hts (fun w h => jmem (inXB w h)) hown hK hP 0 rfl rfl 2 (by decide) (hts _ (jmem tw_75)) (fun _ h9 => h9) rfl dXB_tellSpan_1 ?_
  refine lv_iload_n hx hb dXB_tellSpan_4 rfl (lv_at hl 1 rfl) ?_
  refine ji_bipush hx hb dXB_tellSpan_5 (by decide) ?_
  refine ji_imul hx hb dXB_tellSpan_7 ?_
  refine lv_iload_n hx hb dXB_tellSpan_8 rfl (lv_at hl 2 rfl) ?_
  refine ji_iadd hx hb dXB_tellSpan_9 ?_
  refine lv_iload_n hx hb dXB_tellSpan_10 rfl (lv_at hl 3 rfl) ?_
  refine ji_iast hx hb hK hP hD hS 1 0 rfl rfl ⟨by omega, by omega⟩ (by decide) dXB_tellSpan_11 (fun H locs hP hD hS => ?_)
  have hP : va_P (dC, dI) vwCl [(ba, .inr (0, [.ref bt, .ref bp, .ref bl, .ref bh, .ref bq, .ref br, .ref bd, .int (jI bg), .int (jI bf)])), (bl, .inl (cA, 248, .inl (jA (jset fl ((zg * 8) + ze) zlo)))), (bh, .inl (cA, 248, .inl (jA fh)))] H := hP
  have hD : va_D A [(ba, .inr (0, [.ref bt, .ref bp, .ref bl, .ref bh, .ref bq, .ref br, .ref bd, .int (jI bg), .int (jI bf)])), (bl, .inl (cA, 248, .inl (jA (jset fl ((zg * 8) + ze) zlo)))), (bh, .inl (cA, 248, .inl (jA fh)))] := hD
  refine lv_aload_n hx hb dXB_tellSpan_12 rfl (lv_at hl 0 rfl) ?_
  refine va_get (D := (dC, dI)) (ci := 0) (v := .ref bh) (C := RXB) (T := TXB) (N := 9) hx hb hts (fun w h => jmem (inXB w h)) hown hK hP 0 rfl rfl 3 (by decide) (hts _ (jmem tw_76)) (fun _ h9 => h9) rfl dXB_tellSpan_13 ?_
  refine lv_iload_n hx hb dXB_tellSpan_16 rfl (lv_at hl 1 rfl) ?_
  refine ji_bipush hx hb dXB_tellSpan_17 (by decide) ?_
  refine ji_imul hx hb dXB_tellSpan_19 ?_
  refine lv_iload_n hx hb dXB_tellSpan_20 rfl (lv_at hl 2 rfl) ?_
  refine ji_iadd hx hb dXB_tellSpan_21 ?_
  refine lv_iload hx hb dXB_tellSpan_22 (lv_at hl 4 rfl) ?_
  refine ji_iast hx hb hK hP hD hS 2 0 rfl rfl ⟨by omega, by omega⟩ (by decide) dXB_tellSpan_24 (fun H locs hP hD hS => ?_)
  have hP : va_P (dC, dI) vwCl [(ba, .inr (0, [.ref bt, .ref bp, .ref bl, .ref bh, .ref bq, .ref br, .ref bd, .int (jI bg), .int (jI bf)])), (bl, .inl (cA, 248, .inl (jA (jset fl ((zg * 8) + ze) zlo)))), (bh, .inl (cA, 248, .inl (jA (jset fh ((zg * 8) + ze) zhi))))] H := hP
  have hD : va_D A [(ba, .inr (0, [.ref bt, .ref bp, .ref bl, .ref bh, .ref bq, .ref br, .ref bd, .int (jI bg), .int (jI bf)])), (bl, .inl (cA, 248, .inl (jA (jset fl ((zg * 8) + ze) zlo)))), (bh, .inl (cA, 248, .inl (jA (jset fh ((zg * 8) + ze) zhi))))] := hD
  have hP9 := hP.sub (ws' := [(ba, .inr (0, [.ref bt, .ref bp, .ref bl, .ref bh, .ref bq, .ref br, .ref bd, .int (jI bg), .int (jI bf)])), (bl, .inl (cA, 248, .inl (jA (jset fl ((zg * 8) + ze) zlo)))), (bh, .inl (cA, 248, .inl (jA (jset fh ((zg * 8) + ze) zhi))))]) [0, 1, 2] rfl
  have hD9 := hD.sub (ws' := [(ba, .inr (0, [.ref bt, .ref bp, .ref bl, .ref bh, .ref bq, .ref br, .ref bd, .int (jI bg), .int (jI bf)])), (bl, .inl (cA, 248, .inl (jA (jset fl ((zg * 8) + ze) zlo)))), (bh, .inl (cA, 248, .inl (jA (jset fh ((zg * 8) + ze) zhi))))]) [0, 1, 2] (by decide) rfl
  subst hAe
  subst hQ
  exact W.vret hx hb hr (fun t ht hW => ⟨⟨(jset fl ((zg * 8) + ze) zlo, jset fh ((zg * 8) + ze) zhi), rfl, Eq.trans (by rw [f_XB_tellSpan_s]; try rfl) rfl, ⟨by rw [ht]; exact hP9, va_K.moved hW.alike hK, hD9⟩⟩, hS.F ht⟩) hS.2.2 dXB_tellSpan_25
noncomputable def g_XB_tellRoute (bg : Int) (bf : Int) (fr : Int → Int) (zg : Int) (zr : Int) : (Int → Int) :=
  jset fr zg (jor (fr zg) (jpow zr))
noncomputable def f_XB_tellRoute : Int → Int → (Int → Int) → Int → Int → (Int → Int) := jopq g_XB_tellRoute
theorem f_XB_tellRoute_q : f_XB_tellRoute = g_XB_tellRoute := jopq_eq _
theorem f_XB_tellRoute_s (bg : Int) (bf : Int) (fr : Int → Int) (zg : Int) (zr : Int) : f_XB_tellRoute bg bf fr zg zr = (
    jset fr zg (jor (fr zg) (jpow zr))
  ) := by rw [f_XB_tellRoute_q]; rfl
theorem f_XB_tellRoute_b (bg : Int) (bf : Int) (fr : Int → Int) (zg : Int) (zr : Int) (hbr : ∀ i, 0 ≤ fr i ∧ fr i < 2147483648) (hzg : 0 ≤ zg ∧ zg ≤ 30) (hzr : 0 ≤ zr ∧ zr < 8) : ∀ i, 0 ≤ (f_XB_tellRoute bg bf fr zg zr) i ∧ (f_XB_tellRoute bg bf fr zg zr) i < 2147483648 := by
  intro i
  rw [f_XB_tellRoute_s]
  unfold jset
  split
  · exact ⟨jor_nn _ _, jor_lt (hbr _).2 (jpow_lt (by omega))⟩
  · exact hbr i
set_option maxHeartbeats 4000000 in
set_option maxRecDepth 100000 in
theorem c_XB_tellRoute (l : Launch) (dC : Nat → ClassId) (dI : Nat → Nat → Nat) (cA : ClassId) (sz : Nat) (ba : Nat) (bt : Nat) (bp : Nat) (bl : Nat) (bh : Nat) (bq : Nat) (br : Nat) (bd : Nat) (bg : Int) (bf : Int) (fr : Int → Int) (zg : Int) (zr : Int) (hbr : ∀ i, 0 ≤ fr i ∧ fr i < 2147483648) (hzg : 0 ≤ zg ∧ zg ≤ 30) (hzr : 0 ≤ zr ∧ zr < 8) : Met l yXB_tellRoute (Cond.code yXB_tellRoute cXB_tellRoute 3 none :: TBL) ({ frames := 0, cells := 0, slots := 0, locals := 0 } : Room) (va_Pc [.ref ba, .int (jI zg), .int (jI zr)] (jBw (dC, dI) [(cA, .int)] [(ba, .inr (0, [.ref bt, .ref bp, .ref bl, .ref bh, .ref bq, .ref br, .ref bd, .int (jI bg), .int (jI bf)])), (br, .inl (cA, 31, .inl (jA fr)))] sz)) (va_Qv (fun (u : (Int → Int)) => u = f_XB_tellRoute bg bf fr zg zr) (fun u t => jE (dC, dI) [(cA, .int)] [(ba, .inr (0, [.ref bt, .ref bp, .ref bl, .ref bh, .ref bq, .ref br, .ref bd, .int (jI bg), .int (jI bf)])), (br, .inl (cA, 31, .inl (jA fr)))] sz [(ba, .inr (0, [.ref bt, .ref bp, .ref bl, .ref bh, .ref bq, .ref br, .ref bd, .int (jI bg), .int (jI bf)])), (br, .inl (cA, 31, .inl (jA u)))] t) (va_A [(ba, .inr (0, [.ref bt, .ref bp, .ref bl, .ref bh, .ref bq, .ref br, .ref bd, .int (jI bg), .int (jI bf)])), (br, .inl (cA, 31, .inl (jA fr)))] sz)) 0 0 (va_A [(ba, .inr (0, [.ref bt, .ref bp, .ref bl, .ref bh, .ref bq, .ref br, .ref bd, .int (jI bg), .int (jI bf)])), (br, .inl (cA, 31, .inl (jA fr)))] sz) := by
  refine jMet (cc := cXB_tellRoute) (maxL := 3) (ret := none) (by decide) rfl ?_
  intro p e s m args below meth c s₁ R Q hR hQ B hml hv
  obtain ⟨rfl, hsz, hP, hK, hD0, hN⟩ := hv
  have hx := B.exec
  have hb := B.bytes
  have hr := B.returns
  have hts := atoms_spec (ws := Cond.code yXB_tellRoute cXB_tellRoute 3 none :: TBL) B.pre
  have hown : s.vm.findClass RXB = some m.cls := findClass_of_methodNamed B.named
  have hlocks := B.notSynchronized
  subst hsz
  obtain ⟨A, hAe⟩ : ∃ A, A = va_A [(ba, .inr (0, [.ref bt, .ref bp, .ref bl, .ref bh, .ref bq, .ref br, .ref bd, .int (jI bg), .int (jI bf)])), (br, .inl (cA, 31, .inl (jA fr)))] s.heap.size := ⟨_, rfl⟩
  have hD : va_D A [(ba, .inr (0, [.ref bt, .ref bp, .ref bl, .ref bh, .ref bq, .ref br, .ref bd, .int (jI bg), .int (jI bf)])), (br, .inl (cA, 31, .inl (jA fr)))] := by rw [hAe]; exact hD0.self
  have hA : ∀ q : Nat, s.heap.size ≤ q → A q := fun q h => by rw [hAe]; exact Or.inr h
  have hS : va_S A s.heap s.heap [] := va_S.rf
  have hP : va_P (dC, dI) vwCl [(ba, .inr (0, [.ref bt, .ref bp, .ref bl, .ref bh, .ref bq, .ref br, .ref bd, .int (jI bg), .int (jI bf)])), (br, .inl (cA, 31, .inl (jA fr)))] s.heap := hP
  have hl := lv_entry ([.ref ba, .int (jI zg), .int (jI zr)]) (n := 3) (Nat.le_of_ble_eq_true rfl)
  rw [lg_entry_eq]
  generalize (lg_sl ([.ref ba, .int (jI zg), .int (jI zr)]) ++ List.replicate (3 - (lg_sl ([.ref ba, .int (jI zg), .int (jI zr)])).length) Slot.unset).toArray = ls at hl ⊢
  have hl : lv_has ls 3 [(0, .ref ba), (1, .int (jI zg)), (2, .int (jI zr))] := hl
  have q1 := jpow_pos zr
  refine lv_aload_n hx hb dXB_tellRoute_0 rfl (lv_at hl 0 rfl) ?_
  refine va_get (D := (dC, dI)) (ci := 0) (v := .ref br) (C := RXB) (T := TXB) (N := 9) hx hb hts (fun w h => jmem (inXB w h)) hown hK hP 0 rfl rfl 5 (by decide) (hts _ (jmem tw_78)) (fun _ h9 => h9) rfl dXB_tellRoute_1 ?_
  refine lv_iload_n hx hb dXB_tellRoute_4 rfl (lv_at hl 1 rfl) ?_
  refine lv_dup2_11 hx hb dXB_tellRoute_5 rfl rfl ?_
  refine ji_iald hx hb hK hP 1 0 rfl rfl ⟨by omega, by omega⟩ (by decide) dXB_tellRoute_6 ?_
  have rb := hbr zg
  refine ji_iconst hx hb dXB_tellRoute_7 ?_
  refine lv_iload_n hx hb dXB_tellRoute_8 rfl (lv_at hl 2 rfl) ?_
  refine ji_ishl1 hx hb dXB_tellRoute_9 (by omega) (by omega) ?_
  refine ji_ior hx hb dXB_tellRoute_10 (by omega) (by omega) ?_
  refine ji_iast hx hb hK hP hD hS 1 0 rfl rfl ⟨by omega, by omega⟩ (by decide) dXB_tellRoute_11 (fun H locs hP hD hS => ?_)
  have hP : va_P (dC, dI) vwCl [(ba, .inr (0, [.ref bt, .ref bp, .ref bl, .ref bh, .ref bq, .ref br, .ref bd, .int (jI bg), .int (jI bf)])), (br, .inl (cA, 31, .inl (jA (jset fr zg (jor (fr zg) (jpow zr))))))] H := hP
  have hD : va_D A [(ba, .inr (0, [.ref bt, .ref bp, .ref bl, .ref bh, .ref bq, .ref br, .ref bd, .int (jI bg), .int (jI bf)])), (br, .inl (cA, 31, .inl (jA (jset fr zg (jor (fr zg) (jpow zr))))))] := hD
  have hP9 := hP.sub (ws' := [(ba, .inr (0, [.ref bt, .ref bp, .ref bl, .ref bh, .ref bq, .ref br, .ref bd, .int (jI bg), .int (jI bf)])), (br, .inl (cA, 31, .inl (jA (jset fr zg (jor (fr zg) (jpow zr))))))]) [0, 1] rfl
  have hD9 := hD.sub (ws' := [(ba, .inr (0, [.ref bt, .ref bp, .ref bl, .ref bh, .ref bq, .ref br, .ref bd, .int (jI bg), .int (jI bf)])), (br, .inl (cA, 31, .inl (jA (jset fr zg (jor (fr zg) (jpow zr))))))]) [0, 1] (by decide) rfl
  subst hAe
  subst hQ
  exact W.vret hx hb hr (fun t ht hW => ⟨⟨(jset fr zg (jor (fr zg) (jpow zr))), rfl, Eq.trans (by rw [f_XB_tellRoute_s]; try rfl) rfl, ⟨by rw [ht]; exact hP9, va_K.moved hW.alike hK, hD9⟩⟩, hS.F ht⟩) hS.2.2 dXB_tellRoute_12
noncomputable def g_XB_tellLimit (bg : Int) (bf : Int) (fq : Int → Int) (zg : Int) (zk : Int) (zm : Int) : (Int → Int) :=
  jset fq ((zg * 4) + zk) zm
noncomputable def f_XB_tellLimit : Int → Int → (Int → Int) → Int → Int → Int → (Int → Int) := jopq g_XB_tellLimit
theorem f_XB_tellLimit_q : f_XB_tellLimit = g_XB_tellLimit := jopq_eq _
theorem f_XB_tellLimit_s (bg : Int) (bf : Int) (fq : Int → Int) (zg : Int) (zk : Int) (zm : Int) : f_XB_tellLimit bg bf fq zg zk zm = (
    jset fq ((zg * 4) + zk) zm
  ) := by rw [f_XB_tellLimit_q]; rfl
theorem f_XB_tellLimit_b (bg : Int) (bf : Int) (fq : Int → Int) (zg : Int) (zk : Int) (zm : Int) (hbq : ∀ i, -1 ≤ fq i ∧ fq i ≤ 999999) (hzg : 0 ≤ zg ∧ zg ≤ 30) (hzk : 0 ≤ zk ∧ zk < 4) (hzm : 0 ≤ zm ∧ zm ≤ 999999) : ∀ i, -1 ≤ (f_XB_tellLimit bg bf fq zg zk zm) i ∧ (f_XB_tellLimit bg bf fq zg zk zm) i ≤ 999999 := by
  intro i
  rw [f_XB_tellLimit_s]
  unfold jset
  split
  · omega
  · exact hbq i
set_option maxHeartbeats 4000000 in
set_option maxRecDepth 100000 in
theorem c_XB_tellLimit (l : Launch) (dC : Nat → ClassId) (dI : Nat → Nat → Nat) (cA : ClassId) (sz : Nat) (ba : Nat) (bt : Nat) (bp : Nat) (bl : Nat) (bh : Nat) (bq : Nat) (br : Nat) (bd : Nat) (bg : Int) (bf : Int) (fq : Int → Int) (zg : Int) (zk : Int) (zm : Int) (hbq : ∀ i, -1 ≤ fq i ∧ fq i ≤ 999999) (hzg : 0 ≤ zg ∧ zg ≤ 30) (hzk : 0 ≤ zk ∧ zk < 4) (hzm : 0 ≤ zm ∧ zm ≤ 999999) : Met l yXB_tellLimit (Cond.code yXB_tellLimit cXB_tellLimit 4 none :: TBL) ({ frames := 0, cells := 0, slots := 0, locals := 0 } : Room) (va_Pc [.ref ba, .int (jI zg), .int (jI zk), .int (jI zm)] (jBw (dC, dI) [(cA, .int)] [(ba, .inr (0, [.ref bt, .ref bp, .ref bl, .ref bh, .ref bq, .ref br, .ref bd, .int (jI bg), .int (jI bf)])), (bq, .inl (cA, 124, .inl (jA fq)))] sz)) (va_Qv (fun (u : (Int → Int)) => u = f_XB_tellLimit bg bf fq zg zk zm) (fun u t => jE (dC, dI) [(cA, .int)] [(ba, .inr (0, [.ref bt, .ref bp, .ref bl, .ref bh, .ref bq, .ref br, .ref bd, .int (jI bg), .int (jI bf)])), (bq, .inl (cA, 124, .inl (jA fq)))] sz [(ba, .inr (0, [.ref bt, .ref bp, .ref bl, .ref bh, .ref bq, .ref br, .ref bd, .int (jI bg), .int (jI bf)])), (bq, .inl (cA, 124, .inl (jA u)))] t) (va_A [(ba, .inr (0, [.ref bt, .ref bp, .ref bl, .ref bh, .ref bq, .ref br, .ref bd, .int (jI bg), .int (jI bf)])), (bq, .inl (cA, 124, .inl (jA fq)))] sz)) 0 0 (va_A [(ba, .inr (0, [.ref bt, .ref bp, .ref bl, .ref bh, .ref bq, .ref br, .ref bd, .int (jI bg), .int (jI bf)])), (bq, .inl (cA, 124, .inl (jA fq)))] sz) := by
  refine jMet (cc := cXB_tellLimit) (maxL := 4) (ret := none) (by decide) rfl ?_
  intro p e s m args below meth c s₁ R Q hR hQ B hml hv
  obtain ⟨rfl, hsz, hP, hK, hD0, hN⟩ := hv
  have hx := B.exec
  have hb := B.bytes
  have hr := B.returns
  have hts := atoms_spec (ws := Cond.code yXB_tellLimit cXB_tellLimit 4 none :: TBL) B.pre
  have hown : s.vm.findClass RXB = some m.cls := findClass_of_methodNamed B.named
  have hlocks := B.notSynchronized
  subst hsz
  obtain ⟨A, hAe⟩ : ∃ A, A = va_A [(ba, .inr (0, [.ref bt, .ref bp, .ref bl, .ref bh, .ref bq, .ref br, .ref bd, .int (jI bg), .int (jI bf)])), (bq, .inl (cA, 124, .inl (jA fq)))] s.heap.size := ⟨_, rfl⟩
  have hD : va_D A [(ba, .inr (0, [.ref bt, .ref bp, .ref bl, .ref bh, .ref bq, .ref br, .ref bd, .int (jI bg), .int (jI bf)])), (bq, .inl (cA, 124, .inl (jA fq)))] := by rw [hAe]; exact hD0.self
  have hA : ∀ q : Nat, s.heap.size ≤ q → A q := fun q h => by rw [hAe]; exact Or.inr h
  have hS : va_S A s.heap s.heap [] := va_S.rf
  have hP : va_P (dC, dI) vwCl [(ba, .inr (0, [.ref bt, .ref bp, .ref bl, .ref bh, .ref bq, .ref br, .ref bd, .int (jI bg), .int (jI bf)])), (bq, .inl (cA, 124, .inl (jA fq)))] s.heap := hP
  have hl := lv_entry ([.ref ba, .int (jI zg), .int (jI zk), .int (jI zm)]) (n := 4) (Nat.le_of_ble_eq_true rfl)
  rw [lg_entry_eq]
  generalize (lg_sl ([.ref ba, .int (jI zg), .int (jI zk), .int (jI zm)]) ++ List.replicate (4 - (lg_sl ([.ref ba, .int (jI zg), .int (jI zk), .int (jI zm)])).length) Slot.unset).toArray = ls at hl ⊢
  have hl : lv_has ls 4 [(0, .ref ba), (1, .int (jI zg)), (2, .int (jI zk)), (3, .int (jI zm))] := hl
  refine lv_aload_n hx hb dXB_tellLimit_0 rfl (lv_at hl 0 rfl) ?_
  refine va_get (D := (dC, dI)) (ci := 0) (v := .ref bq) (C := RXB) (T := TXB) (N := 9) hx hb hts (fun w h => jmem (inXB w h)) hown hK hP 0 rfl rfl 4 (by decide) (hts _ (jmem tw_77)) (fun _ h9 => h9) rfl dXB_tellLimit_1 ?_
  refine lv_iload_n hx hb dXB_tellLimit_4 rfl (lv_at hl 1 rfl) ?_
  refine ji_iconst hx hb dXB_tellLimit_5 ?_
  refine ji_imul hx hb dXB_tellLimit_6 ?_
  refine lv_iload_n hx hb dXB_tellLimit_7 rfl (lv_at hl 2 rfl) ?_
  refine ji_iadd hx hb dXB_tellLimit_8 ?_
  refine lv_iload_n hx hb dXB_tellLimit_9 rfl (lv_at hl 3 rfl) ?_
  refine ji_iast hx hb hK hP hD hS 1 0 rfl rfl ⟨by omega, by omega⟩ (by decide) dXB_tellLimit_10 (fun H locs hP hD hS => ?_)
  have hP : va_P (dC, dI) vwCl [(ba, .inr (0, [.ref bt, .ref bp, .ref bl, .ref bh, .ref bq, .ref br, .ref bd, .int (jI bg), .int (jI bf)])), (bq, .inl (cA, 124, .inl (jA (jset fq ((zg * 4) + zk) zm))))] H := hP
  have hD : va_D A [(ba, .inr (0, [.ref bt, .ref bp, .ref bl, .ref bh, .ref bq, .ref br, .ref bd, .int (jI bg), .int (jI bf)])), (bq, .inl (cA, 124, .inl (jA (jset fq ((zg * 4) + zk) zm))))] := hD
  have hP9 := hP.sub (ws' := [(ba, .inr (0, [.ref bt, .ref bp, .ref bl, .ref bh, .ref bq, .ref br, .ref bd, .int (jI bg), .int (jI bf)])), (bq, .inl (cA, 124, .inl (jA (jset fq ((zg * 4) + zk) zm))))]) [0, 1] rfl
  have hD9 := hD.sub (ws' := [(ba, .inr (0, [.ref bt, .ref bp, .ref bl, .ref bh, .ref bq, .ref br, .ref bd, .int (jI bg), .int (jI bf)])), (bq, .inl (cA, 124, .inl (jA (jset fq ((zg * 4) + zk) zm))))]) [0, 1] (by decide) rfl
  subst hAe
  subst hQ
  exact W.vret hx hb hr (fun t ht hW => ⟨⟨(jset fq ((zg * 4) + zk) zm), rfl, Eq.trans (by rw [f_XB_tellLimit_s]; try rfl) rfl, ⟨by rw [ht]; exact hP9, va_K.moved hW.alike hK, hD9⟩⟩, hS.F ht⟩) hS.2.2 dXB_tellLimit_11
noncomputable def g_XB_hasFormula (bg : Int) (bf : Int) (zk : Int) : Int :=
  f_XG_hasBit bf zk
noncomputable def f_XB_hasFormula : Int → Int → Int → Int := jopq g_XB_hasFormula
theorem f_XB_hasFormula_q : f_XB_hasFormula = g_XB_hasFormula := jopq_eq _
theorem f_XB_hasFormula_s (bg : Int) (bf : Int) (zk : Int) : f_XB_hasFormula bg bf zk = (
    f_XG_hasBit bf zk
  ) := by rw [f_XB_hasFormula_q]; rfl
theorem f_XB_hasFormula_b (bg : Int) (bf : Int) (zk : Int) (hbf : 0 ≤ bf ∧ bf < 2147483648) (hzk : 0 ≤ zk ∧ zk < 4) : 0 ≤ (f_XB_hasFormula bg bf zk) ∧ (f_XB_hasFormula bg bf zk) ≤ 1 := by rw [f_XB_hasFormula_s]; exact f_XG_hasBit_01 _ _ hbf (by omega)
set_option maxHeartbeats 4000000 in
set_option maxRecDepth 100000 in
theorem c_XB_hasFormula (l : Launch) (dC : Nat → ClassId) (dI : Nat → Nat → Nat) (cA : ClassId) (ba : Nat) (bt : Nat) (bp : Nat) (bl : Nat) (bh : Nat) (bq : Nat) (br : Nat) (bd : Nat) (bg : Int) (bf : Int) (zk : Int) (hbf : 0 ≤ bf ∧ bf < 2147483648) (hzk : 0 ≤ zk ∧ zk < 4) : Met l yXB_hasFormula (Cond.code yXB_hasFormula cXB_hasFormula 2 (some .boolean) :: TBL) ({ frames := 1, cells := 0, slots := 0, locals := 21 } : Room) (va_Pc [.ref ba, .int (jI zk)] (jB (dC, dI) [(cA, .int)] [(ba, .inr (0, [.ref bt, .ref bp, .ref bl, .ref bh, .ref bq, .ref br, .ref bd, .int (jI bg), .int (jI bf)]))])) (vp_Si (fun r => r = jI (f_XB_hasFormula bg bf zk))) 0 0 (fun _ => False) := by
  refine jMet (cc := cXB_hasFormula) (maxL := 2) (ret := some .boolean) (by decide) rfl ?_
  intro p e s m args below meth c s₁ R Q hR hQ B hml hv
  obtain ⟨rfl, hP, hK, hN⟩ := hv
  have hx := B.exec
  have hb := B.bytes
  have hr := B.returns
  have hts := atoms_spec (ws := Cond.code yXB_hasFormula cXB_hasFormula 2 (some .boolean) :: TBL) B.pre
  have hown : s.vm.findClass RXB = some m.cls := findClass_of_methodNamed B.named
  have hlocks := B.notSynchronized
  have hP : va_P (dC, dI) vwCl [(ba, .inr (0, [.ref bt, .ref bp, .ref bl, .ref bh, .ref bq, .ref br, .ref bd, .int (jI bg), .int (jI bf)]))] s.heap := hP
  have hl := lv_entry ([.ref ba, .int (jI zk)]) (n := 2) (Nat.le_of_ble_eq_true rfl)
  rw [lg_entry_eq]
  generalize (lg_sl ([.ref ba, .int (jI zk)]) ++ List.replicate (2 - (lg_sl ([.ref ba, .int (jI zk)])).length) Slot.unset).toArray = ls at hl ⊢
  have hl : lv_has ls 2 [(0, .ref ba), (1, .int (jI zk))] := hl
  refine lv_aload_n hx hb dXB_hasFormula_0 rfl (lv_at hl 0 rfl) ?_
  refine va_get (D := (dC, dI)) (ci := 0) (v := .int (jI bf)) (C := RXB) (T := TXB) (N := 9) hx hb hts (fun w h => jmem (inXB w h)) hown hK hP 0 rfl rfl 8 (by decide) (hts _ (jmem tw_81)) (fun _ h9 => h9) rfl dXB_hasFormula_1 ?_
  refine lv_iload_n hx hb dXB_hasFormula_4 rfl (lv_at hl 1 rfl) ?_
  refine jrNi (rest := []) ⟨hx, hb, hml, hown, hts⟩ (c_XG_hasBit l dC dI cA bf zk (by first | assumption | omega) (by first | assumption | omega)) ⟨va_cnB 2 hts (jG (jG_c tw_173)) rfl rfl rfl (jN.n171 hN) (hts _ (jmem tw_1)) (by decide +kernel) (by rw [hR]; exact ⟨Nat.le_of_ble_eq_true rfl, Nat.le_of_ble_eq_true rfl⟩), hts _ (jmem tw_172), trivial⟩ hK hP hN [] rfl rfl hl.1 rfl (Nat.le_of_ble_eq_true rfl) dXB_hasFormula_5 (by rw [hR]; exact ⟨Nat.le_of_ble_eq_true rfl, Nat.le_of_ble_eq_true rfl⟩) ?_
  have f := f_XG_hasBit_01 bf zk (by first | assumption | omega) (by first | assumption | omega)
  subst hQ
  exact W.zret (v := jI (f_XG_hasBit bf zk)) hx hb hr (by first | decide | exact jz (by omega)) (fun t ht hW => ⟨_, rfl, congrArg jI (Eq.trans (by rw [f_XB_hasFormula_s]; try rfl) rfl), ht⟩) (fun _ h => nomatch h) dXB_hasFormula_8
noncomputable def g_XB_knows (bg : Int) (bf : Int) (zi : Int) : Int :=
  if zi < 1 then
    0
  else
    if 30 < zi then
      0
    else
      if (f_XG_hasBit bg zi) = 0 then
        0
      else
        1
noncomputable def f_XB_knows : Int → Int → Int → Int := jopq g_XB_knows
theorem f_XB_knows_q : f_XB_knows = g_XB_knows := jopq_eq _
theorem f_XB_knows_s (bg : Int) (bf : Int) (zi : Int) : f_XB_knows bg bf zi = (
    if zi < 1 then
      0
    else
      if 30 < zi then
        0
      else
        if (f_XG_hasBit bg zi) = 0 then
          0
        else
          1
  ) := by rw [f_XB_knows_q]; rfl
theorem f_XB_knows_b (bg : Int) (bf : Int) (zi : Int) (hbg : 0 ≤ bg ∧ bg < 2147483648) (hzi : i32 zi) : 0 ≤ (f_XB_knows bg bf zi) ∧ (f_XB_knows bg bf zi) ≤ 1 := by rw [f_XB_knows_s]; (repeat' split) <;> omega
theorem f_XB_knows_c (bg : Int) (bf : Int) (zi : Int) (hbg : 0 ≤ bg ∧ bg < 2147483648) (hzi : i32 zi) : (f_XB_knows bg bf zi) ≠ 0 → 1 ≤ zi ∧ zi ≤ 30 := by rw [f_XB_knows_s]; (repeat' split) <;> omega
set_option maxHeartbeats 4000000 in
set_option maxRecDepth 100000 in
theorem c_XB_knows (l : Launch) (dC : Nat → ClassId) (dI : Nat → Nat → Nat) (cA : ClassId) (ba : Nat) (bt : Nat) (bp : Nat) (bl : Nat) (bh : Nat) (bq : Nat) (br : Nat) (bd : Nat) (bg : Int) (bf : Int) (zi : Int) (hbg : 0 ≤ bg ∧ bg < 2147483648) (hzi : i32 zi) : Met l yXB_knows (Cond.code yXB_knows cXB_knows 2 (some .boolean) :: TBL) ({ frames := 1, cells := 0, slots := 0, locals := 21 } : Room) (va_Pc [.ref ba, .int (jI zi)] (jB (dC, dI) [(cA, .int)] [(ba, .inr (0, [.ref bt, .ref bp, .ref bl, .ref bh, .ref bq, .ref br, .ref bd, .int (jI bg), .int (jI bf)]))])) (vp_Si (fun r => r = jI (f_XB_knows bg bf zi))) 0 0 (fun _ => False) := by
  refine jMet (cc := cXB_knows) (maxL := 2) (ret := some .boolean) (by decide) rfl ?_
  intro p e s m args below meth c s₁ R Q hR hQ B hml hv
  obtain ⟨rfl, hP, hK, hN⟩ := hv
  have hx := B.exec
  have hb := B.bytes
  have hr := B.returns
  have hts := atoms_spec (ws := Cond.code yXB_knows cXB_knows 2 (some .boolean) :: TBL) B.pre
  have hown : s.vm.findClass RXB = some m.cls := findClass_of_methodNamed B.named
  have hlocks := B.notSynchronized
  have hP : va_P (dC, dI) vwCl [(ba, .inr (0, [.ref bt, .ref bp, .ref bl, .ref bh, .ref bq, .ref br, .ref bd, .int (jI bg), .int (jI bf)]))] s.heap := hP
  have hl := lv_entry ([.ref ba, .int (jI zi)]) (n := 2) (Nat.le_of_ble_eq_true rfl)
  rw [lg_entry_eq]
  generalize (lg_sl ([.ref ba, .int (jI zi)]) ++ List.replicate (2 - (lg_sl ([.ref ba, .int (jI zi)])).length) Slot.unset).toArray = ls at hl ⊢
  have hl : lv_has ls 2 [(0, .ref ba), (1, .int (jI zi))] := hl
  refine lv_iload_n hx hb dXB_knows_0 rfl (lv_at hl 1 rfl) ?_
  refine ji_iconst hx hb dXB_knows_1 ?_
  refine ji_icmp_lt (tgt := 26) hx hb dXB_knows_2 (by decide) (by omega) (by omega) (fun c2_ => ?_) (fun c2_ => ?_)
  · refine ji_iconst hx hb dXB_knows_26 ?_
    subst hQ
    exact W.zret (v := jI 0) hx hb hr (by first | decide | exact jz (by omega)) (fun t ht hW => ⟨_, rfl, congrArg jI (Eq.trans (by rw [f_XB_knows_s]; rw [if_pos c2_]; try rfl) rfl), ht⟩) (fun _ h => nomatch h) dXB_knows_27
  · refine lv_iload_n hx hb dXB_knows_5 rfl (lv_at hl 1 rfl) ?_
    refine ji_bipush hx hb dXB_knows_6 (by decide) ?_
    refine ji_icmp_gt (tgt := 26) hx hb dXB_knows_8 (by decide) (by omega) (by omega) (fun c8_ => ?_) (fun c8_ => ?_)
    · refine ji_iconst hx hb dXB_knows_26 ?_
      subst hQ
      exact W.zret (v := jI 0) hx hb hr (by first | decide | exact jz (by omega)) (fun t ht hW => ⟨_, rfl, congrArg jI (Eq.trans (by rw [f_XB_knows_s]; rw [if_neg (Int.not_lt.mpr c2_), if_pos c8_]; try rfl) rfl), ht⟩) (fun _ h => nomatch h) dXB_knows_27
    · refine lv_aload_n hx hb dXB_knows_11 rfl (lv_at hl 0 rfl) ?_
      refine va_get (D := (dC, dI)) (ci := 0) (v := .int (jI bg)) (C := RXB) (T := TXB) (N := 9) hx hb hts (fun w h => jmem (inXB w h)) hown hK hP 0 rfl rfl 7 (by decide) (hts _ (jmem tw_80)) (fun _ h9 => h9) rfl dXB_knows_12 ?_
      refine lv_iload_n hx hb dXB_knows_15 rfl (lv_at hl 1 rfl) ?_
      refine jrNi (rest := []) ⟨hx, hb, hml, hown, hts⟩ (c_XG_hasBit l dC dI cA bg zi (by first | assumption | omega) (by first | assumption | omega)) ⟨va_cnB 2 hts (jG (jG_c tw_173)) rfl rfl rfl (jN.n171 hN) (hts _ (jmem tw_1)) (by decide +kernel) (by rw [hR]; exact ⟨Nat.le_of_ble_eq_true rfl, Nat.le_of_ble_eq_true rfl⟩), hts _ (jmem tw_172), trivial⟩ hK hP hN [] rfl rfl hl.1 rfl (Nat.le_of_ble_eq_true rfl) dXB_knows_16 (by rw [hR]; exact ⟨Nat.le_of_ble_eq_true rfl, Nat.le_of_ble_eq_true rfl⟩) ?_
      have f := f_XG_hasBit_01 bg zi (by first | assumption | omega) (by first | assumption | omega)
      refine ji_if_eq (tgt := 26) hx hb dXB_knows_19 (by decide) (by omega) (fun c19_ => ?_) (fun c19_ => ?_)
      · refine ji_iconst hx hb dXB_knows_26 ?_
        subst hQ
        exact W.zret (v := jI 0) hx hb hr (by first | decide | exact jz (by omega)) (fun t ht hW => ⟨_, rfl, congrArg jI (Eq.trans (by rw [f_XB_knows_s]; rw [if_neg (Int.not_lt.mpr c2_), if_neg (Int.not_lt.mpr c8_), if_pos c19_]; try rfl) rfl), ht⟩) (fun _ h => nomatch h) dXB_knows_27
      · refine ji_iconst hx hb dXB_knows_22 ?_
        refine lv_goto (tgt := 27) hx hb dXB_knows_23 (by decide) ?_
        subst hQ
        exact W.zret (v := jI 1) hx hb hr (by first | decide | exact jz (by omega)) (fun t ht hW => ⟨_, rfl, congrArg jI (Eq.trans (by rw [f_XB_knows_s]; rw [if_neg (Int.not_lt.mpr c2_), if_neg (Int.not_lt.mpr c8_), if_neg c19_]; try rfl) rfl), ht⟩) (fun _ h => nomatch h) dXB_knows_27
end
section
noncomputable def g_XB_forget (bg : Int) (bf : Int) (ft : Int → Int) (fh : Int → Int) (fq : Int → Int) (fr : Int → Int) (fd : Int → Int) : (Int → Int) × (Int → Int) × (Int → Int) × (Int → Int) × (Int → Int) × Int × Int :=
  (f_XA_fill31 ft 0, f_XA_fill248 fh (-1), f_XA_fill124 fq (-1), f_XA_fill31 fr 0, f_XA_fill32 fd 0, 0, 0)
noncomputable def f_XB_forget : Int → Int → (Int → Int) → (Int → Int) → (Int → Int) → (Int → Int) → (Int → Int) → (Int → Int) × (Int → Int) × (Int → Int) × (Int → Int) × (Int → Int) × Int × Int := jopq g_XB_forget
theorem f_XB_forget_q : f_XB_forget = g_XB_forget := jopq_eq _
theorem f_XB_forget_s (bg : Int) (bf : Int) (ft : Int → Int) (fh : Int → Int) (fq : Int → Int) (fr : Int → Int) (fd : Int → Int) : f_XB_forget bg bf ft fh fq fr fd = (
    (f_XA_fill31 ft 0, f_XA_fill248 fh (-1), f_XA_fill124 fq (-1), f_XA_fill31 fr 0, f_XA_fill32 fd 0, 0, 0)
  ) := by rw [f_XB_forget_q]; rfl
set_option maxHeartbeats 4000000 in
set_option maxRecDepth 100000 in
theorem c_XB_forget (l : Launch) (dC : Nat → ClassId) (dI : Nat → Nat → Nat) (cA : ClassId) (sz : Nat) (ba : Nat) (bt : Nat) (bp : Nat) (bl : Nat) (bh : Nat) (bq : Nat) (br : Nat) (bd : Nat) (bg : Int) (bf : Int) (ft : Int → Int) (fh : Int → Int) (fq : Int → Int) (fr : Int → Int) (fd : Int → Int) : Met l yXB_forget (Cond.code yXB_forget cXB_forget 1 none :: TBL) ({ frames := 1, cells := 0, slots := 0, locals := 23 } : Room) (va_Pc [.ref ba] (jBw (dC, dI) [(cA, .int)] [(ba, .inr (0, [.ref bt, .ref bp, .ref bl, .ref bh, .ref bq, .ref br, .ref bd, .int (jI bg), .int (jI bf)])), (bt, .inl (cA, 31, .inl (jA ft))), (bh, .inl (cA, 248, .inl (jA fh))), (bq, .inl (cA, 124, .inl (jA fq))), (br, .inl (cA, 31, .inl (jA fr))), (bd, .inl (cA, 32, .inl (jA fd)))] sz)) (va_Qv (fun (u : (Int → Int) × (Int → Int) × (Int → Int) × (Int → Int) × (Int → Int) × Int × Int) => u = f_XB_forget bg bf ft fh fq fr fd) (fun u t => jE (dC, dI) [(cA, .int)] [(ba, .inr (0, [.ref bt, .ref bp, .ref bl, .ref bh, .ref bq, .ref br, .ref bd, .int (jI bg), .int (jI bf)])), (bt, .inl (cA, 31, .inl (jA ft))), (bh, .inl (cA, 248, .inl (jA fh))), (bq, .inl (cA, 124, .inl (jA fq))), (br, .inl (cA, 31, .inl (jA fr))), (bd, .inl (cA, 32, .inl (jA fd)))] sz [(ba, .inr (0, [.ref bt, .ref bp, .ref bl, .ref bh, .ref bq, .ref br, .ref bd, .int (jI u.2.2.2.2.2.1), .int (jI u.2.2.2.2.2.2)])), (bt, .inl (cA, 31, .inl (jA u.1))), (bh, .inl (cA, 248, .inl (jA u.2.1))), (bq, .inl (cA, 124, .inl (jA u.2.2.1))), (br, .inl (cA, 31, .inl (jA u.2.2.2.1))), (bd, .inl (cA, 32, .inl (jA u.2.2.2.2.1)))] t) (va_A [(ba, .inr (0, [.ref bt, .ref bp, .ref bl, .ref bh, .ref bq, .ref br, .ref bd, .int (jI bg), .int (jI bf)])), (bt, .inl (cA, 31, .inl (jA ft))), (bh, .inl (cA, 248, .inl (jA fh))), (bq, .inl (cA, 124, .inl (jA fq))), (br, .inl (cA, 31, .inl (jA fr))), (bd, .inl (cA, 32, .inl (jA fd)))] sz)) 0 0 (va_A [(ba, .inr (0, [.ref bt, .ref bp, .ref bl, .ref bh, .ref bq, .ref br, .ref bd, .int (jI bg), .int (jI bf)])), (bt, .inl (cA, 31, .inl (jA ft))), (bh, .inl (cA, 248, .inl (jA fh))), (bq, .inl (cA, 124, .inl (jA fq))), (br, .inl (cA, 31, .inl (jA fr))), (bd, .inl (cA, 32, .inl (jA fd)))] sz) := by
  refine jMet (cc := cXB_forget) (maxL := 1) (ret := none) (by decide) rfl ?_
  intro p e s m args below meth c s₁ R Q hR hQ B hml hv
  obtain ⟨rfl, hsz, hP, hK, hD0, hN⟩ := hv
  have hx := B.exec
  have hb := B.bytes
  have hr := B.returns
  have hts := atoms_spec (ws := Cond.code yXB_forget cXB_forget 1 none :: TBL) B.pre
  have hown : s.vm.findClass RXB = some m.cls := findClass_of_methodNamed B.named
  have hlocks := B.notSynchronized
  subst hsz
  obtain ⟨A, hAe⟩ : ∃ A, A = va_A [(ba, .inr (0, [.ref bt, .ref bp, .ref bl, .ref bh, .ref bq, .ref br, .ref bd, .int (jI bg), .int (jI bf)])), (bt, .inl (cA, 31, .inl (jA ft))), (bh, .inl (cA, 248, .inl (jA fh))), (bq, .inl (cA, 124, .inl (jA fq))), (br, .inl (cA, 31, .inl (jA fr))), (bd, .inl (cA, 32, .inl (jA fd)))] s.heap.size := ⟨_, rfl⟩
  have hD : va_D A [(ba, .inr (0, [.ref bt, .ref bp, .ref bl, .ref bh, .ref bq, .ref br, .ref bd, .int (jI bg), .int (jI bf)])), (bt, .inl (cA, 31, .inl (jA ft))), (bh, .inl (cA, 248, .inl (jA fh))), (bq, .inl (cA, 124, .inl (jA fq))), (br, .inl (cA, 31, .inl (jA fr))), (bd, .inl (cA, 32, .inl (jA fd)))] := by rw [hAe]; exact hD0.self
  have hA : ∀ q : Nat, s.heap.size ≤ q → A q := fun q h => by rw [hAe]; exact Or.inr h
  have hS : va_S A s.heap s.heap [] := va_S.rf
  have hP : va_P (dC, dI) vwCl [(ba, .inr (0, [.ref bt, .ref bp, .ref bl, .ref bh, .ref bq, .ref br, .ref bd, .int (jI bg), .int (jI bf)])), (bt, .inl (cA, 31, .inl (jA ft))), (bh, .inl (cA, 248, .inl (jA fh))), (bq, .inl (cA, 124, .inl (jA fq))), (br, .inl (cA, 31, .inl (jA fr))), (bd, .inl (cA, 32, .inl (jA fd)))] s.heap := hP
  have hl := lv_entry ([.ref ba]) (n := 1) (Nat.le_of_ble_eq_true rfl)
  rw [lg_entry_eq]
  generalize (lg_sl ([.ref ba]) ++ List.replicate (1 - (lg_sl ([.ref ba])).length) Slot.unset).toArray = ls at hl ⊢
  have hl : lv_has ls 1 [(0, .ref ba)] := hl
  refine lv_aload_n hx hb dXB_forget_0 rfl (lv_at hl 0 rfl) ?_
  refine va_get (D := (dC, dI)) (ci := 0) (v := .ref bt) (C := RXB) (T := TXB) (N := 9) hx hb hts (fun w h => jmem (inXB w h)) hown hK hP 0 rfl rfl 0 (by decide) (hts _ (jmem tw_73)) (fun _ h9 => h9) rfl dXB_forget_1 ?_
  refine ji_iconst hx hb dXB_forget_4 ?_
  refine jwSv (rest := []) (wr := [(ba, .inr (0, [.ref bt, .ref bp, .ref bl, .ref bh, .ref bq, .ref br, .ref bd, .int (jI bg), .int (jI bf)])), (bh, .inl (cA, 248, .inl (jA fh))), (bq, .inl (cA, 124, .inl (jA fq))), (br, .inl (cA, 31, .inl (jA fr))), (bd, .inl (cA, 32, .inl (jA fd)))]) ⟨hx, hb, hml, hown, hts⟩ (c_XA_fill31 l dC dI cA _ bt ft 0) (va_cwS 2 hts (jG_T tw_131 tw_132 tw_12 tw_133) rfl rfl rfl (by decide +kernel) (by rw [hR]; exact ⟨Nat.le_of_ble_eq_true rfl, Nat.le_of_ble_eq_true rfl⟩)) hK hP hD hS hA hN [1] [0, 2, 3, 4, 5] rfl rfl (by decide) (by decide) (by decide) rfl hl.1 rfl (Nat.le_of_ble_eq_true rfl) dXB_forget_5 (by rw [hR]; exact ⟨Nat.le_of_ble_eq_true rfl, Nat.le_of_ble_eq_true rfl⟩) (fun u H locs hw hP hD hS => ?_)
  subst hw
  have hP : va_P (dC, dI) vwCl [(ba, .inr (0, [.ref bt, .ref bp, .ref bl, .ref bh, .ref bq, .ref br, .ref bd, .int (jI bg), .int (jI bf)])), (bh, .inl (cA, 248, .inl (jA fh))), (bq, .inl (cA, 124, .inl (jA fq))), (br, .inl (cA, 31, .inl (jA fr))), (bd, .inl (cA, 32, .inl (jA fd))), (bt, .inl (cA, 31, .inl (jA (f_XA_fill31 ft 0))))] H := hP
  have hD : va_D A [(ba, .inr (0, [.ref bt, .ref bp, .ref bl, .ref bh, .ref bq, .ref br, .ref bd, .int (jI bg), .int (jI bf)])), (bh, .inl (cA, 248, .inl (jA fh))), (bq, .inl (cA, 124, .inl (jA fq))), (br, .inl (cA, 31, .inl (jA fr))), (bd, .inl (cA, 32, .inl (jA fd))), (bt, .inl (cA, 31, .inl (jA (f_XA_fill31 ft 0))))] := hD
  refine lv_aload_n hx hb dXB_forget_8 rfl (lv_at hl 0 rfl) ?_
  refine va_get (D := (dC, dI)) (ci := 0) (v := .ref bh) (C := RXB) (T := TXB) (N := 9) hx hb hts (fun w h => jmem (inXB w h)) hown hK hP 0 rfl rfl 3 (by decide) (hts _ (jmem tw_76)) (fun _ h9 => h9) rfl dXB_forget_9 ?_
  refine ji_iconst hx hb dXB_forget_12 ?_
  refine jwSv (rest := []) (wr := [(ba, .inr (0, [.ref bt, .ref bp, .ref bl, .ref bh, .ref bq, .ref br, .ref bd, .int (jI bg), .int (jI bf)])), (bq, .inl (cA, 124, .inl (jA fq))), (br, .inl (cA, 31, .inl (jA fr))), (bd, .inl (cA, 32, .inl (jA fd))), (bt, .inl (cA, 31, .inl (jA (f_XA_fill31 ft 0))))]) ⟨hx, hb, hml, hown, hts⟩ (c_XA_fill248 l dC dI cA _ bh fh (-1)) (va_cwS 2 hts (jG_T tw_131 tw_132 tw_12 tw_133) rfl rfl rfl (by decide +kernel) (by rw [hR]; exact ⟨Nat.le_of_ble_eq_true rfl, Nat.le_of_ble_eq_true rfl⟩)) hK hP hD hS hA hN [1] [0, 2, 3, 4, 5] rfl rfl (by decide) (by decide) (by decide) rfl hl.1 rfl (Nat.le_of_ble_eq_true rfl) dXB_forget_13 (by rw [hR]; exact ⟨Nat.le_of_ble_eq_true rfl, Nat.le_of_ble_eq_true rfl⟩) (fun u1 H locs hw hP hD hS => ?_)
  subst hw
  have hP : va_P (dC, dI) vwCl [(ba, .inr (0, [.ref bt, .ref bp, .ref bl, .ref bh, .ref bq, .ref br, .ref bd, .int (jI bg), .int (jI bf)])), (bq, .inl (cA, 124, .inl (jA fq))), (br, .inl (cA, 31, .inl (jA fr))), (bd, .inl (cA, 32, .inl (jA fd))), (bt, .inl (cA, 31, .inl (jA (f_XA_fill31 ft 0)))), (bh, .inl (cA, 248, .inl (jA (f_XA_fill248 fh (-1)))))] H := hP
  have hD : va_D A [(ba, .inr (0, [.ref bt, .ref bp, .ref bl, .ref bh, .ref bq, .ref br, .ref bd, .int (jI bg), .int (jI bf)])), (bq, .inl (cA, 124, .inl (jA fq))), (br, .inl (cA, 31, .inl (jA fr))), (bd, .inl (cA, 32, .inl (jA fd))), (bt, .inl (cA, 31, .inl (jA (f_XA_fill31 ft 0)))), (bh, .inl (cA, 248, .inl (jA (f_XA_fill248 fh (-1)))))] := hD
  refine lv_aload_n hx hb dXB_forget_16 rfl (lv_at hl 0 rfl) ?_
  refine va_get (D := (dC, dI)) (ci := 0) (v := .ref bq) (C := RXB) (T := TXB) (N := 9) hx hb hts (fun w h => jmem (inXB w h)) hown hK hP 0 rfl rfl 4 (by decide) (hts _ (jmem tw_77)) (fun _ h9 => h9) rfl dXB_forget_17 ?_
  refine ji_iconst hx hb dXB_forget_20 ?_
  refine jwSv (rest := []) (wr := [(ba, .inr (0, [.ref bt, .ref bp, .ref bl, .ref bh, .ref bq, .ref br, .ref bd, .int (jI bg), .int (jI bf)])), (br, .inl (cA, 31, .inl (jA fr))), (bd, .inl (cA, 32, .inl (jA fd))), (bt, .inl (cA, 31, .inl (jA (f_XA_fill31 ft 0)))), (bh, .inl (cA, 248, .inl (jA (f_XA_fill248 fh (-1)))))]) ⟨hx, hb, hml, hown, hts⟩ (c_XA_fill124 l dC dI cA _ bq fq (-1)) (va_cwS 2 hts (jG_T tw_131 tw_132 tw_12 tw_133) rfl rfl rfl (by decide +kernel) (by rw [hR]; exact ⟨Nat.le_of_ble_eq_true rfl, Nat.le_of_ble_eq_true rfl⟩)) hK hP hD hS hA hN [1] [0, 2, 3, 4, 5] rfl rfl (by decide) (by decide) (by decide) rfl hl.1 rfl (Nat.le_of_ble_eq_true rfl) dXB_forget_21 (by rw [hR]; exact ⟨Nat.le_of_ble_eq_true rfl, Nat.le_of_ble_eq_true rfl⟩) (fun u2 H locs hw hP hD hS => ?_)
  subst hw
  have hP : va_P (dC, dI) vwCl [(ba, .inr (0, [.ref bt, .ref bp, .ref bl, .ref bh, .ref bq, .ref br, .ref bd, .int (jI bg), .int (jI bf)])), (br, .inl (cA, 31, .inl (jA fr))), (bd, .inl (cA, 32, .inl (jA fd))), (bt, .inl (cA, 31, .inl (jA (f_XA_fill31 ft 0)))), (bh, .inl (cA, 248, .inl (jA (f_XA_fill248 fh (-1))))), (bq, .inl (cA, 124, .inl (jA (f_XA_fill124 fq (-1)))))] H := hP
  have hD : va_D A [(ba, .inr (0, [.ref bt, .ref bp, .ref bl, .ref bh, .ref bq, .ref br, .ref bd, .int (jI bg), .int (jI bf)])), (br, .inl (cA, 31, .inl (jA fr))), (bd, .inl (cA, 32, .inl (jA fd))), (bt, .inl (cA, 31, .inl (jA (f_XA_fill31 ft 0)))), (bh, .inl (cA, 248, .inl (jA (f_XA_fill248 fh (-1))))), (bq, .inl (cA, 124, .inl (jA (f_XA_fill124 fq (-1)))))] := hD
  refine lv_aload_n hx hb dXB_forget_24 rfl (lv_at hl 0 rfl) ?_
  refine va_get (D := (dC, dI)) (ci := 0) (v := .ref br) (C := RXB) (T := TXB) (N := 9) hx hb hts (fun w h => jmem (inXB w h)) hown hK hP 0 rfl rfl 5 (by decide) (hts _ (jmem tw_78)) (fun _ h9 => h9) rfl dXB_forget_25 ?_
  refine ji_iconst hx hb dXB_forget_28 ?_
  refine jwSv (rest := []) (wr := [(ba, .inr (0, [.ref bt, .ref bp, .ref bl, .ref bh, .ref bq, .ref br, .ref bd, .int (jI bg), .int (jI bf)])), (bd, .inl (cA, 32, .inl (jA fd))), (bt, .inl (cA, 31, .inl (jA (f_XA_fill31 ft 0)))), (bh, .inl (cA, 248, .inl (jA (f_XA_fill248 fh (-1))))), (bq, .inl (cA, 124, .inl (jA (f_XA_fill124 fq (-1)))))]) ⟨hx, hb, hml, hown, hts⟩ (c_XA_fill31 l dC dI cA _ br fr 0) (va_cwS 2 hts (jG_T tw_131 tw_132 tw_12 tw_133) rfl rfl rfl (by decide +kernel) (by rw [hR]; exact ⟨Nat.le_of_ble_eq_true rfl, Nat.le_of_ble_eq_true rfl⟩)) hK hP hD hS hA hN [1] [0, 2, 3, 4, 5] rfl rfl (by decide) (by decide) (by decide) rfl hl.1 rfl (Nat.le_of_ble_eq_true rfl) dXB_forget_29 (by rw [hR]; exact ⟨Nat.le_of_ble_eq_true rfl, Nat.le_of_ble_eq_true rfl⟩) (fun u3 H locs hw hP hD hS => ?_)
  subst hw
  have hP : va_P (dC, dI) vwCl [(ba, .inr (0, [.ref bt, .ref bp, .ref bl, .ref bh, .ref bq, .ref br, .ref bd, .int (jI bg), .int (jI bf)])), (bd, .inl (cA, 32, .inl (jA fd))), (bt, .inl (cA, 31, .inl (jA (f_XA_fill31 ft 0)))), (bh, .inl (cA, 248, .inl (jA (f_XA_fill248 fh (-1))))), (bq, .inl (cA, 124, .inl (jA (f_XA_fill124 fq (-1))))), (br, .inl (cA, 31, .inl (jA (f_XA_fill31 fr 0))))] H := hP
  have hD : va_D A [(ba, .inr (0, [.ref bt, .ref bp, .ref bl, .ref bh, .ref bq, .ref br, .ref bd, .int (jI bg), .int (jI bf)])), (bd, .inl (cA, 32, .inl (jA fd))), (bt, .inl (cA, 31, .inl (jA (f_XA_fill31 ft 0)))), (bh, .inl (cA, 248, .inl (jA (f_XA_fill248 fh (-1))))), (bq, .inl (cA, 124, .inl (jA (f_XA_fill124 fq (-1))))), (br, .inl (cA, 31, .inl (jA (f_XA_fill31 fr 0))))] := hD
  refine lv_aload_n hx hb dXB_forget_32 rfl (lv_at hl 0 rfl) ?_
  refine va_get (D := (dC, dI)) (ci := 0) (v := .ref bd) (C := RXB) (T := TXB) (N := 9) hx hb hts (fun w h => jmem (inXB w h)) hown hK hP 0 rfl rfl 6 (by decide) (hts _ (jmem tw_79)) (fun _ h9 => h9) rfl dXB_forget_33 ?_
  refine ji_iconst hx hb dXB_forget_36 ?_
  refine jwSv (rest := []) (wr := [(ba, .inr (0, [.ref bt, .ref bp, .ref bl, .ref bh, .ref bq, .ref br, .ref bd, .int (jI bg), .int (jI bf)])), (bt, .inl (cA, 31, .inl (jA (f_XA_fill31 ft 0)))), (bh, .inl (cA, 248, .inl (jA (f_XA_fill248 fh (-1))))), (bq, .inl (cA, 124, .inl (jA (f_XA_fill124 fq (-1))))), (br, .inl (cA, 31, .inl (jA (f_XA_fill31 fr 0))))]) ⟨hx, hb, hml, hown, hts⟩ (c_XA_fill32 l dC dI cA _ bd fd 0) (va_cwS 2 hts (jG_T tw_131 tw_132 tw_12 tw_133) rfl rfl rfl (by decide +kernel) (by rw [hR]; exact ⟨Nat.le_of_ble_eq_true rfl, Nat.le_of_ble_eq_true rfl⟩)) hK hP hD hS hA hN [1] [0, 2, 3, 4, 5] rfl rfl (by decide) (by decide) (by decide) rfl hl.1 rfl (Nat.le_of_ble_eq_true rfl) dXB_forget_37 (by rw [hR]; exact ⟨Nat.le_of_ble_eq_true rfl, Nat.le_of_ble_eq_true rfl⟩) (fun u4 H locs hw hP hD hS => ?_)
  subst hw
  have hP : va_P (dC, dI) vwCl [(ba, .inr (0, [.ref bt, .ref bp, .ref bl, .ref bh, .ref bq, .ref br, .ref bd, .int (jI bg), .int (jI bf)])), (bt, .inl (cA, 31, .inl (jA (f_XA_fill31 ft 0)))), (bh, .inl (cA, 248, .inl (jA (f_XA_fill248 fh (-1))))), (bq, .inl (cA, 124, .inl (jA (f_XA_fill124 fq (-1))))), (br, .inl (cA, 31, .inl (jA (f_XA_fill31 fr 0)))), (bd, .inl (cA, 32, .inl (jA (f_XA_fill32 fd 0))))] H := hP
  have hD : va_D A [(ba, .inr (0, [.ref bt, .ref bp, .ref bl, .ref bh, .ref bq, .ref br, .ref bd, .int (jI bg), .int (jI bf)])), (bt, .inl (cA, 31, .inl (jA (f_XA_fill31 ft 0)))), (bh, .inl (cA, 248, .inl (jA (f_XA_fill248 fh (-1))))), (bq, .inl (cA, 124, .inl (jA (f_XA_fill124 fq (-1))))), (br, .inl (cA, 31, .inl (jA (f_XA_fill31 fr 0)))), (bd, .inl (cA, 32, .inl (jA (f_XA_fill32 fd 0))))] := hD
  refine lv_aload_n hx hb dXB_forget_40 rfl (lv_at hl 0 rfl) ?_
  refine ji_iconst hx hb dXB_forget_41 ?_
  refine va_put (D := (dC, dI)) (ci := 0) (v := .int (jI 0)) (ty := (.int)) (C := RXB) (T := TXB) (N := 9) hx hb hts (fun w h => jmem (inXB w h)) tyXB tyXB_ok nXB hown hK hP hD hS 0 rfl rfl 7 (by decide) (hts _ (jmem tw_80)) (fun _ h9 => h9) rfl (by decide +kernel) rfl rfl (Nat.le_of_ble_eq_true rfl) dXB_forget_42 (fun H locs hP hD hS => ?_)
  have hP : va_P (dC, dI) vwCl [(ba, .inr (0, [.ref bt, .ref bp, .ref bl, .ref bh, .ref bq, .ref br, .ref bd, .int (jI 0), .int (jI bf)])), (bt, .inl (cA, 31, .inl (jA (f_XA_fill31 ft 0)))), (bh, .inl (cA, 248, .inl (jA (f_XA_fill248 fh (-1))))), (bq, .inl (cA, 124, .inl (jA (f_XA_fill124 fq (-1))))), (br, .inl (cA, 31, .inl (jA (f_XA_fill31 fr 0)))), (bd, .inl (cA, 32, .inl (jA (f_XA_fill32 fd 0))))] H := hP
  have hD : va_D A [(ba, .inr (0, [.ref bt, .ref bp, .ref bl, .ref bh, .ref bq, .ref br, .ref bd, .int (jI 0), .int (jI bf)])), (bt, .inl (cA, 31, .inl (jA (f_XA_fill31 ft 0)))), (bh, .inl (cA, 248, .inl (jA (f_XA_fill248 fh (-1))))), (bq, .inl (cA, 124, .inl (jA (f_XA_fill124 fq (-1))))), (br, .inl (cA, 31, .inl (jA (f_XA_fill31 fr 0)))), (bd, .inl (cA, 32, .inl (jA (f_XA_fill32 fd 0))))] := hD
  refine lv_aload_n hx hb dXB_forget_45 rfl (lv_at hl 0 rfl) ?_
  refine ji_iconst hx hb dXB_forget_46 ?_
  refine va_put (D := (dC, dI)) (ci := 0) (v := .int (jI 0)) (ty := (.int)) (C := RXB) (T := TXB) (N := 9) hx hb hts (fun w h => jmem (inXB w h)) tyXB tyXB_ok nXB hown hK hP hD hS 0 rfl rfl 8 (by decide) (hts _ (jmem tw_81)) (fun _ h9 => h9) rfl (by decide +kernel) rfl rfl (Nat.le_of_ble_eq_true rfl) dXB_forget_47 (fun H locs hP hD hS => ?_)
  have hP : va_P (dC, dI) vwCl [(ba, .inr (0, [.ref bt, .ref bp, .ref bl, .ref bh, .ref bq, .ref br, .ref bd, .int (jI 0), .int (jI 0)])), (bt, .inl (cA, 31, .inl (jA (f_XA_fill31 ft 0)))), (bh, .inl (cA, 248, .inl (jA (f_XA_fill248 fh (-1))))), (bq, .inl (cA, 124, .inl (jA (f_XA_fill124 fq (-1))))), (br, .inl (cA, 31, .inl (jA (f_XA_fill31 fr 0)))), (bd, .inl (cA, 32, .inl (jA (f_XA_fill32 fd 0))))] H := hP
  have hD : va_D A [(ba, .inr (0, [.ref bt, .ref bp, .ref bl, .ref bh, .ref bq, .ref br, .ref bd, .int (jI 0), .int (jI 0)])), (bt, .inl (cA, 31, .inl (jA (f_XA_fill31 ft 0)))), (bh, .inl (cA, 248, .inl (jA (f_XA_fill248 fh (-1))))), (bq, .inl (cA, 124, .inl (jA (f_XA_fill124 fq (-1))))), (br, .inl (cA, 31, .inl (jA (f_XA_fill31 fr 0)))), (bd, .inl (cA, 32, .inl (jA (f_XA_fill32 fd 0))))] := hD
  have hP9 := hP.sub (ws' := [(ba, .inr (0, [.ref bt, .ref bp, .ref bl, .ref bh, .ref bq, .ref br, .ref bd, .int (jI 0), .int (jI 0)])), (bt, .inl (cA, 31, .inl (jA (f_XA_fill31 ft 0)))), (bh, .inl (cA, 248, .inl (jA (f_XA_fill248 fh (-1))))), (bq, .inl (cA, 124, .inl (jA (f_XA_fill124 fq (-1))))), (br, .inl (cA, 31, .inl (jA (f_XA_fill31 fr 0)))), (bd, .inl (cA, 32, .inl (jA (f_XA_fill32 fd 0))))]) [0, 1, 2, 3, 4, 5] rfl
  have hD9 := hD.sub (ws' := [(ba, .inr (0, [.ref bt, .ref bp, .ref bl, .ref bh, .ref bq, .ref br, .ref bd, .int (jI 0), .int (jI 0)])), (bt, .inl (cA, 31, .inl (jA (f_XA_fill31 ft 0)))), (bh, .inl (cA, 248, .inl (jA (f_XA_fill248 fh (-1))))), (bq, .inl (cA, 124, .inl (jA (f_XA_fill124 fq (-1))))), (br, .inl (cA, 31, .inl (jA (f_XA_fill31 fr 0)))), (bd, .inl (cA, 32, .inl (jA (f_XA_fill32 fd 0))))]) [0, 1, 2, 3, 4, 5] (by decide) rfl
  subst hAe
  subst hQ
  exact W.vret hx hb hr (fun t ht hW => ⟨⟨(f_XA_fill31 ft 0, f_XA_fill248 fh (-1), f_XA_fill124 fq (-1), f_XA_fill31 fr 0, f_XA_fill32 fd 0, 0, 0), rfl, Eq.trans (by rw [f_XB_forget_s]; try rfl) rfl, ⟨by rw [ht]; exact hP9, va_K.moved hW.alike hK, hD9⟩⟩, hS.F ht⟩) hS.2.2 dXB_forget_50
noncomputable def g_XB_onRing_L9 (bg : Int) (bf : Int) (ft : Int → Int) (zg : Int) : Nat → Int → Int → Int
  | 0, _, _ => 0
  | n9 + 1, v, k =>
    if k < 30 then
      if 0 < v then
        if v = zg then
          1
        else
          g_XB_onRing_L9 bg bf ft zg n9 (ft v) (k + 1)
      else
        0
    else
      0
noncomputable def f_XB_onRing_L9 : Int → Int → (Int → Int) → Int → Nat → Int → Int → Int := jopq g_XB_onRing_L9
theorem f_XB_onRing_L9_q : f_XB_onRing_L9 = g_XB_onRing_L9 := jopq_eq _
theorem f_XB_onRing_L9_s (bg : Int) (bf : Int) (ft : Int → Int) (zg : Int) (n9 : Nat) (v : Int) (k : Int) : f_XB_onRing_L9 bg bf ft zg (n9 + 1) v k = (
    if k < 30 then
      if 0 < v then
        if v = zg then
          1
        else
          f_XB_onRing_L9 bg bf ft zg n9 (ft v) (k + 1)
      else
        0
    else
      0
  ) := by rw [f_XB_onRing_L9_q]; rfl
theorem f_XB_onRing_L9_z (bg : Int) (bf : Int) (ft : Int → Int) (zg : Int) (v : Int) (k : Int) : f_XB_onRing_L9 bg bf ft zg 0 v k = 0 := by rw [f_XB_onRing_L9_q]; rfl
noncomputable def g_XB_onRing (bg : Int) (bf : Int) (ft : Int → Int) (zg : Int) : Int :=
  f_XB_onRing_L9 bg bf ft zg (Int.toNat (30 - 0) + 1) (ft zg) 0
noncomputable def f_XB_onRing : Int → Int → (Int → Int) → Int → Int := jopq g_XB_onRing
theorem f_XB_onRing_q : f_XB_onRing = g_XB_onRing := jopq_eq _
theorem f_XB_onRing_s (bg : Int) (bf : Int) (ft : Int → Int) (zg : Int) : f_XB_onRing bg bf ft zg = (
    f_XB_onRing_L9 bg bf ft zg (Int.toNat (30 - 0) + 1) (ft zg) 0
  ) := by rw [f_XB_onRing_q]; rfl
theorem f_XB_onRing_L (bg bf : Int) (ft : Int → Int) (zg : Int) : ∀ (n : Nat) (v k : Int), 0 ≤ f_XB_onRing_L9 bg bf ft zg n v k ∧ f_XB_onRing_L9 bg bf ft zg n v k ≤ 1 := by
  intro n
  induction n with
  | zero => intro v k; simp only [f_XB_onRing_L9_z] <;> omega
  | succ n ih =>
    intro v k
    rw [f_XB_onRing_L9_s]
    (repeat' split) <;> first | omega | exact ih _ _
theorem f_XB_onRing_b (bg : Int) (bf : Int) (ft : Int → Int) (zg : Int) (hbt : ∀ i, 0 ≤ ft i ∧ ft i ≤ 30) (hzg : 0 ≤ zg ∧ zg ≤ 30) : 0 ≤ (f_XB_onRing bg bf ft zg) ∧ (f_XB_onRing bg bf ft zg) ≤ 1 := by rw [f_XB_onRing_s]; exact f_XB_onRing_L _ _ _ _ _ _ _
set_option maxHeartbeats 4000000 in
set_option maxRecDepth 100000 in
theorem c_XB_onRing (l : Launch) (dC : Nat → ClassId) (dI : Nat → Nat → Nat) (cA : ClassId) (ba : Nat) (bt : Nat) (bp : Nat) (bl : Nat) (bh : Nat) (bq : Nat) (br : Nat) (bd : Nat) (bg : Int) (bf : Int) (ft : Int → Int) (zg : Int) (hbt : ∀ i, 0 ≤ ft i ∧ ft i ≤ 30) (hzg : 0 ≤ zg ∧ zg ≤ 30) : Met l yXB_onRing (Cond.code yXB_onRing cXB_onRing 4 (some .boolean) :: TBL) ({ frames := 0, cells := 0, slots := 0, locals := 0 } : Room) (va_Pc [.ref ba, .int (jI zg)] (jB (dC, dI) [(cA, .int)] [(ba, .inr (0, [.ref bt, .ref bp, .ref bl, .ref bh, .ref bq, .ref br, .ref bd, .int (jI bg), .int (jI bf)])), (bt, .inl (cA, 31, .inl (jA ft)))])) (vp_Si (fun r => r = jI (f_XB_onRing bg bf ft zg))) 0 0 (fun _ => False) := by
  refine jMet (cc := cXB_onRing) (maxL := 4) (ret := some .boolean) (by decide) rfl ?_
  intro p e s m args below meth c s₁ R Q hR hQ B hml hv
  obtain ⟨rfl, hP, hK, hN⟩ := hv
  have hx := B.exec
  have hb := B.bytes
  have hr := B.returns
  have hts := atoms_spec (ws := Cond.code yXB_onRing cXB_onRing 4 (some .boolean) :: TBL) B.pre
  have hown : s.vm.findClass RXB = some m.cls := findClass_of_methodNamed B.named
  have hlocks := B.notSynchronized
  have hP : va_P (dC, dI) vwCl [(ba, .inr (0, [.ref bt, .ref bp, .ref bl, .ref bh, .ref bq, .ref br, .ref bd, .int (jI bg), .int (jI bf)])), (bt, .inl (cA, 31, .inl (jA ft)))] s.heap := hP
  have hl := lv_entry ([.ref ba, .int (jI zg)]) (n := 4) (Nat.le_of_ble_eq_true rfl)
  rw [lg_entry_eq]
  generalize (lg_sl ([.ref ba, .int (jI zg)]) ++ List.replicate (4 - (lg_sl ([.ref ba, .int (jI zg)])).length) Slot.unset).toArray = ls at hl ⊢
  have hl : lv_has ls 4 [(0, .ref ba), (1, .int (jI zg))] := hl
  refine lv_aload_n hx hb dXB_onRing_0 rfl (lv_at hl 0 rfl) ?_
  refine va_get (D := (dC, dI)) (ci := 0) (v := .ref bt) (C := RXB) (T := TXB) (N := 9) hx hb hts (fun w h => jmem (inXB w h)) hown hK hP 0 rfl rfl 0 (by decide) (hts _ (jmem tw_73)) (fun _ h9 => h9) rfl dXB_onRing_1 ?_
  refine lv_iload_n hx hb dXB_onRing_4 rfl (lv_at hl 1 rfl) ?_
  refine ji_iald hx hb hK hP 1 0 rfl rfl ⟨by omega, by omega⟩ (by decide) dXB_onRing_5 ?_
  have rb := hbt zg
  refine lv_istore_n (lv' := [(2, .int (jI (ft zg))), (0, .ref ba), (1, .int (jI zg))]) hx hb dXB_onRing_6 rfl hl (by decide) rfl (fun ls hl => ?_)
  refine ji_iconst hx hb dXB_onRing_7 ?_
  refine lv_istore_n (lv' := [(3, .int (jI 0)), (2, .int (jI (ft zg))), (0, .ref ba), (1, .int (jI zg))]) hx hb dXB_onRing_8 rfl hl (by decide) rfl (fun ls hl => ?_)
  have loop9 : ∀ (n9 : Nat) (v : Int) (k : Int) , 30 - k < (n9 : Int) → f_XB_onRing_L9 bg bf ft zg n9 v k = f_XB_onRing bg bf ft zg → 0 ≤ k ∧ k ≤ 30 → 0 ≤ v ∧ v ≤ 30 → ∀ ls : Array Slot, lv_has ls 4 [(3, .int (jI k)), (2, .int (jI v)), (0, .ref ba), (1, .int (jI zg))] → W p l e R s m ([.ref ba, .int (jI zg)] : List Value).toArray below meth c s.heap [] 0 0 Q (F0 m 9 ls []) := by
    intro n9
    induction n9 with
    | zero =>
      intro v k hm hF hk hv
      exact absurd hm (by omega)
    | succ n9 ih9 =>
      intro v k hm hF hk hv ls hl
      refine lv_iload_n hx hb dXB_onRing_9 rfl (lv_at hl 0 rfl) ?_
      refine ji_bipush hx hb dXB_onRing_10 (by decide) ?_
      refine ji_icmp_ge (tgt := 39) hx hb dXB_onRing_12 (by decide) (by omega) (by omega) (fun c12_ => ?_) (fun c12_ => ?_)
      · refine ji_iconst hx hb dXB_onRing_39 ?_
        subst hQ
        exact W.zret (v := jI 0) hx hb hr (by first | decide | exact jz (by omega)) (fun t ht hW => ⟨_, rfl, congrArg jI (Eq.trans (by rw [f_XB_onRing_L9_s]; rw [if_neg (Int.not_lt.mpr c12_)]; try rfl) hF), ht⟩) (fun _ h => nomatch h) dXB_onRing_40
      · refine lv_iload_n hx hb dXB_onRing_15 rfl (lv_at hl 1 rfl) ?_
        refine ji_if_le (tgt := 39) hx hb dXB_onRing_16 (by decide) (by omega) (fun c16_ => ?_) (fun c16_ => ?_)
        · refine ji_iconst hx hb dXB_onRing_39 ?_
          subst hQ
          exact W.zret (v := jI 0) hx hb hr (by first | decide | exact jz (by omega)) (fun t ht hW => ⟨_, rfl, congrArg jI (Eq.trans (by rw [f_XB_onRing_L9_s]; rw [if_pos c12_, if_neg (Int.not_lt.mpr c16_)]; try rfl) hF), ht⟩) (fun _ h => nomatch h) dXB_onRing_40
        · refine lv_iload_n hx hb dXB_onRing_19 rfl (lv_at hl 1 rfl) ?_
          refine lv_iload_n hx hb dXB_onRing_20 rfl (lv_at hl 3 rfl) ?_
          refine ji_icmp_ne (tgt := 26) hx hb dXB_onRing_21 (by decide) (by omega) (by omega) (fun c21_ => ?_) (fun c21_ => ?_)
          · refine lv_aload_n hx hb dXB_onRing_26 rfl (lv_at hl 2 rfl) ?_
            refine va_get (D := (dC, dI)) (ci := 0) (v := .ref bt) (C := RXB) (T := TXB) (N := 9) hx hb hts (fun w h => jmem (inXB w h)) hown hK hP 0 rfl rfl 0 (by decide) (hts _ (jmem tw_73)) (fun _ h9 => h9) rfl dXB_onRing_27 ?_
            refine lv_iload_n hx hb dXB_onRing_30 rfl (lv_at hl 1 rfl) ?_
            refine ji_iald hx hb hK hP 1 0 rfl rfl ⟨by omega, by omega⟩ (by decide) dXB_onRing_31 ?_
            have rb1 := hbt v
            refine lv_istore_n (lv' := [(2, .int (jI (ft v))), (3, .int (jI k)), (0, .ref ba), (1, .int (jI zg))]) hx hb dXB_onRing_32 rfl hl (by decide) rfl (fun ls hl => ?_)
            refine ji_iinc (k := 1) (lv' := [(3, .int (jI (k + 1))), (2, .int (jI (ft v))), (0, .ref ba), (1, .int (jI zg))]) hx hb dXB_onRing_33 hl rfl (by decide) rfl (fun ls hl => ?_)
            refine lv_goto (tgt := 9) hx hb dXB_onRing_36 (by decide) ?_
            exact ih9 (ft v) (k + 1) (by omega) (Eq.trans (by rw [f_XB_onRing_L9_s]; rw [if_pos c12_, if_pos c16_, if_neg c21_]; try rfl) hF) (by first | assumption | omega) (by first | assumption | omega) ls (lv_sub hl [0, 1, 2, 3] rfl)
          · refine ji_iconst hx hb dXB_onRing_24 ?_
            subst hQ
            exact W.zret (v := jI 1) hx hb hr (by first | decide | exact jz (by omega)) (fun t ht hW => ⟨_, rfl, congrArg jI (Eq.trans (by rw [f_XB_onRing_L9_s]; rw [if_pos c12_, if_pos c16_, if_pos c21_]; try rfl) hF), ht⟩) (fun _ h => nomatch h) dXB_onRing_25
  exact loop9 (Int.toNat (30 - 0) + 1) (ft zg) 0 (by omega) (Eq.trans (by rw [f_XB_onRing_s]; try rfl) rfl) (by first | assumption | omega) (by first | assumption | omega) ls (lv_sub hl [0, 1, 2, 3] rfl)
noncomputable def g_XB_settle_L2 (bg : Int) (bf : Int) (ft : Int → Int) (fp : Int → Int) : Nat → Int → (Int → Int) → (Int → Int)
  | 0, _, _ => fun _ => 0
  | n9 + 1, k, fa =>
    if 30 < k then
      fa
    else
      if (f_XB_knows bg bf (ft k)) = 0 then
        g_XB_settle_L2 bg bf ft fp n9 (k + 1) (jset fa k 0)
      else
        if (f_XB_onRing bg bf ft k) = 0 then
          g_XB_settle_L2 bg bf ft fp n9 (k + 1) (jset fa k (ft k))
        else
          g_XB_settle_L2 bg bf ft fp n9 (k + 1) (jset fa k 0)
noncomputable def f_XB_settle_L2 : Int → Int → (Int → Int) → (Int → Int) → Nat → Int → (Int → Int) → (Int → Int) := jopq g_XB_settle_L2
theorem f_XB_settle_L2_q : f_XB_settle_L2 = g_XB_settle_L2 := jopq_eq _
theorem f_XB_settle_L2_s (bg : Int) (bf : Int) (ft : Int → Int) (fp : Int → Int) (n9 : Nat) (k : Int) (fa : Int → Int) : f_XB_settle_L2 bg bf ft fp (n9 + 1) k fa = (
    if 30 < k then
      fa
    else
      if (f_XB_knows bg bf (ft k)) = 0 then
        f_XB_settle_L2 bg bf ft fp n9 (k + 1) (jset fa k 0)
      else
        if (f_XB_onRing bg bf ft k) = 0 then
          f_XB_settle_L2 bg bf ft fp n9 (k + 1) (jset fa k (ft k))
        else
          f_XB_settle_L2 bg bf ft fp n9 (k + 1) (jset fa k 0)
  ) := by rw [f_XB_settle_L2_q]; rfl
theorem f_XB_settle_L2_z (bg : Int) (bf : Int) (ft : Int → Int) (fp : Int → Int) (k : Int) (fa : Int → Int) : f_XB_settle_L2 bg bf ft fp 0 k fa = fun _ => 0 := by rw [f_XB_settle_L2_q]; rfl
noncomputable def g_XB_settle (bg : Int) (bf : Int) (ft : Int → Int) (fp : Int → Int) : (Int → Int) :=
  f_XB_settle_L2 bg bf ft fp (Int.toNat (31 - 1) + 1) 1 fp
noncomputable def f_XB_settle : Int → Int → (Int → Int) → (Int → Int) → (Int → Int) := jopq g_XB_settle
theorem f_XB_settle_q : f_XB_settle = g_XB_settle := jopq_eq _
theorem f_XB_settle_s (bg : Int) (bf : Int) (ft : Int → Int) (fp : Int → Int) : f_XB_settle bg bf ft fp = (
    f_XB_settle_L2 bg bf ft fp (Int.toNat (31 - 1) + 1) 1 fp
  ) := by rw [f_XB_settle_q]; rfl
theorem f_XB_settle_L (bg bf : Int) (ft fp : Int → Int) (hbt : ∀ i, 0 ≤ ft i ∧ ft i ≤ 30) : ∀ (n : Nat) (k : Int) (fa : Int → Int), (∀ i, 0 ≤ fa i ∧ fa i ≤ 30) → ∀ i, 0 ≤ f_XB_settle_L2 bg bf ft fp n k fa i ∧ f_XB_settle_L2 bg bf ft fp n k fa i ≤ 30 := by
  intro n
  induction n with
  | zero => intro k fa _ i; simp only [f_XB_settle_L2_z] <;> omega
  | succ n ih =>
    intro k fa h
    have hj : ∀ x, 0 ≤ x ∧ x ≤ 30 → ∀ i, 0 ≤ jset fa k x i ∧ jset fa k x i ≤ 30 := by
      intro x hx i
      unfold jset
      split
      · exact hx
      · exact h i
    rw [f_XB_settle_L2_s]
    (repeat' split) <;> first | exact h | exact ih _ _ (hj _ (hbt _)) | exact ih _ _ (hj 0 (by omega))
theorem f_XB_settle_b (bg : Int) (bf : Int) (ft : Int → Int) (fp : Int → Int) (hbt : ∀ i, 0 ≤ ft i ∧ ft i ≤ 30) (hbp : ∀ i, 0 ≤ fp i ∧ fp i ≤ 30) (hbg : 0 ≤ bg ∧ bg < 2147483648) : ∀ i, 0 ≤ (f_XB_settle bg bf ft fp) i ∧ (f_XB_settle bg bf ft fp) i ≤ 30 := by rw [f_XB_settle_s]; exact f_XB_settle_L _ _ _ _ hbt _ _ _ hbp
set_option maxHeartbeats 4000000 in
set_option maxRecDepth 100000 in
theorem c_XB_settle (l : Launch) (dC : Nat → ClassId) (dI : Nat → Nat → Nat) (cA : ClassId) (sz : Nat) (ba : Nat) (bt : Nat) (bp : Nat) (bl : Nat) (bh : Nat) (bq : Nat) (br : Nat) (bd : Nat) (bg : Int) (bf : Int) (ft : Int → Int) (fp : Int → Int) (hbt : ∀ i, 0 ≤ ft i ∧ ft i ≤ 30) (hbp : ∀ i, 0 ≤ fp i ∧ fp i ≤ 30) (hbg : 0 ≤ bg ∧ bg < 2147483648) : Met l yXB_settle (Cond.code yXB_settle cXB_settle 3 none :: TBL) ({ frames := 2, cells := 0, slots := 0, locals := 42 } : Room) (va_Pc [.ref ba] (jBw (dC, dI) [(cA, .int)] [(ba, .inr (0, [.ref bt, .ref bp, .ref bl, .ref bh, .ref bq, .ref br, .ref bd, .int (jI bg), .int (jI bf)])), (bt, .inl (cA, 31, .inl (jA ft))), (bp, .inl (cA, 31, .inl (jA fp)))] sz)) (va_Qv (fun (u : (Int → Int)) => u = f_XB_settle bg bf ft fp) (fun u t => jE (dC, dI) [(cA, .int)] [(ba, .inr (0, [.ref bt, .ref bp, .ref bl, .ref bh, .ref bq, .ref br, .ref bd, .int (jI bg), .int (jI bf)])), (bt, .inl (cA, 31, .inl (jA ft))), (bp, .inl (cA, 31, .inl (jA fp)))] sz [(ba, .inr (0, [.ref bt, .ref bp, .ref bl, .ref bh, .ref bq, .ref br, .ref bd, .int (jI bg), .int (jI bf)])), (bt, .inl (cA, 31, .inl (jA ft))), (bp, .inl (cA, 31, .inl (jA u)))] t) (va_A [(ba, .inr (0, [.ref bt, .ref bp, .ref bl, .ref bh, .ref bq, .ref br, .ref bd, .int (jI bg), .int (jI bf)])), (bt, .inl (cA, 31, .inl (jA ft))), (bp, .inl (cA, 31, .inl (jA fp)))] sz)) 0 0 (va_A [(ba, .inr (0, [.ref bt, .ref bp, .ref bl, .ref bh, .ref bq, .ref br, .ref bd, .int (jI bg), .int (jI bf)])), (bt, .inl (cA, 31, .inl (jA ft))), (bp, .inl (cA, 31, .inl (jA fp)))] sz) := by
  refine jMet (cc := cXB_settle) (maxL := 3) (ret := none) (by decide) rfl ?_
  intro p e s m args below meth c s₁ R Q hR hQ B hml hv
  obtain ⟨rfl, hsz, hP, hK, hD0, hN⟩ := hv
  have hx := B.exec
  have hb := B.bytes
  have hr := B.returns
  have hts := atoms_spec (ws := Cond.code yXB_settle cXB_settle 3 none :: TBL) B.pre
  have hown : s.vm.findClass RXB = some m.cls := findClass_of_methodNamed B.named
  have hlocks := B.notSynchronized
  subst hsz
  obtain ⟨A, hAe⟩ : ∃ A, A = va_A [(ba, .inr (0, [.ref bt, .ref bp, .ref bl, .ref bh, .ref bq, .ref br, .ref bd, .int (jI bg), .int (jI bf)])), (bt, .inl (cA, 31, .inl (jA ft))), (bp, .inl (cA, 31, .inl (jA fp)))] s.heap.size := ⟨_, rfl⟩
  have hD : va_D A [(ba, .inr (0, [.ref bt, .ref bp, .ref bl, .ref bh, .ref bq, .ref br, .ref bd, .int (jI bg), .int (jI bf)])), (bt, .inl (cA, 31, .inl (jA ft))), (bp, .inl (cA, 31, .inl (jA fp)))] := by rw [hAe]; exact hD0.self
  have hA : ∀ q : Nat, s.heap.size ≤ q → A q := fun q h => by rw [hAe]; exact Or.inr h
  have hS : va_S A s.heap s.heap [] := va_S.rf
  have hP : va_P (dC, dI) vwCl [(ba, .inr (0, [.ref bt, .ref bp, .ref bl, .ref bh, .ref bq, .ref br, .ref bd, .int (jI bg), .int (jI bf)])), (bt, .inl (cA, 31, .inl (jA ft))), (bp, .inl (cA, 31, .inl (jA fp)))] s.heap := hP
  have hl := lv_entry ([.ref ba]) (n := 3) (Nat.le_of_ble_eq_true rfl)
  rw [lg_entry_eq]
  generalize (lg_sl ([.ref ba]) ++ List.replicate (3 - (lg_sl ([.ref ba])).length) Slot.unset).toArray = ls at hl ⊢
  have hl : lv_has ls 3 [(0, .ref ba)] := hl
  refine ji_iconst hx hb dXB_settle_0 ?_
  refine lv_istore_n (lv' := [(1, .int (jI 1)), (0, .ref ba)]) hx hb dXB_settle_1 rfl hl (by decide) rfl (fun ls hl => ?_)
  have loop2 : ∀ (n9 : Nat) (k : Int) (fa : Int → Int) , 31 - k < (n9 : Int) → f_XB_settle_L2 bg bf ft fp n9 k fa = f_XB_settle bg bf ft fp → 1 ≤ k ∧ k ≤ 31 → ∀ (H : Heap) (locs : List Loc), va_P (dC, dI) vwCl [(ba, .inr (0, [.ref bt, .ref bp, .ref bl, .ref bh, .ref bq, .ref br, .ref bd, .int (jI bg), .int (jI bf)])), (bt, .inl (cA, 31, .inl (jA ft))), (bp, .inl (cA, 31, .inl (jA fa)))] H → va_D A [(ba, .inr (0, [.ref bt, .ref bp, .ref bl, .ref bh, .ref bq, .ref br, .ref bd, .int (jI bg), .int (jI bf)])), (bt, .inl (cA, 31, .inl (jA ft))), (bp, .inl (cA, 31, .inl (jA fa)))] → va_S A s.heap H locs → ∀ ls : Array Slot, lv_has ls 3 [(1, .int (jI k)), (0, .ref ba)] → W p l e R s m ([.ref ba] : List Value).toArray below meth c H locs 0 0 Q (F0 m 2 ls []) := by
    intro n9
    induction n9 with
    | zero =>
      intro k fa hm hF hk
      exact absurd hm (by omega)
    | succ n9 ih2 =>
      intro k fa hm hF hk H locs hP hD hS ls hl
      refine lv_iload_n hx hb dXB_settle_2 rfl (lv_at hl 0 rfl) ?_
      refine ji_bipush hx hb dXB_settle_3 (by decide) ?_
      refine ji_icmp_gt (tgt := 48) hx hb dXB_settle_5 (by decide) (by omega) (by omega) (fun c5_ => ?_) (fun c5_ => ?_)
      · have hP9 := hP.sub (ws' := [(ba, .inr (0, [.ref bt, .ref bp, .ref bl, .ref bh, .ref bq, .ref br, .ref bd, .int (jI bg), .int (jI bf)])), (bt, .inl (cA, 31, .inl (jA ft))), (bp, .inl (cA, 31, .inl (jA fa)))]) [0, 1, 2] rfl
        have hD9 := hD.sub (ws' := [(ba, .inr (0, [.ref bt, .ref bp, .ref bl, .ref bh, .ref bq, .ref br, .ref bd, .int (jI bg), .int (jI bf)])), (bt, .inl (cA, 31, .inl (jA ft))), (bp, .inl (cA, 31, .inl (jA fa)))]) [0, 1, 2] (by decide) rfl
        subst hAe
        subst hQ
        exact W.vret hx hb hr (fun t ht hW => ⟨⟨fa, rfl, Eq.trans (by rw [f_XB_settle_L2_s]; rw [if_pos c5_]; try rfl) hF, ⟨by rw [ht]; exact hP9, va_K.moved hW.alike hK, hD9⟩⟩, hS.F ht⟩) hS.2.2 dXB_settle_48
      · refine lv_aload_n hx hb dXB_settle_8 rfl (lv_at hl 1 rfl) ?_
        refine va_get (D := (dC, dI)) (ci := 0) (v := .ref bt) (C := RXB) (T := TXB) (N := 9) hx hb hts (fun w h => jmem (inXB w h)) hown hK hP 0 rfl rfl 0 (by decide) (hts _ (jmem tw_73)) (fun _ h9 => h9) rfl dXB_settle_9 ?_
        refine lv_iload_n hx hb dXB_settle_12 rfl (lv_at hl 0 rfl) ?_
        refine ji_iald hx hb hK hP 1 0 rfl rfl ⟨by omega, by omega⟩ (by decide) dXB_settle_13 ?_
        have rb := hbt k
        refine lv_istore_n (lv' := [(2, .int (jI (ft k))), (1, .int (jI k)), (0, .ref ba)]) hx hb dXB_settle_14 rfl hl (by decide) rfl (fun ls hl => ?_)
        refine lv_aload_n hx hb dXB_settle_15 rfl (lv_at hl 2 rfl) ?_
        refine va_get (D := (dC, dI)) (ci := 0) (v := .ref bp) (C := RXB) (T := TXB) (N := 9) hx hb hts (fun w h => jmem (inXB w h)) hown hK hP 0 rfl rfl 1 (by decide) (hts _ (jmem tw_74)) (fun _ h9 => h9) rfl dXB_settle_16 ?_
        refine lv_iload_n hx hb dXB_settle_19 rfl (lv_at hl 1 rfl) ?_
        refine lv_aload_n hx hb dXB_settle_20 rfl (lv_at hl 2 rfl) ?_
        refine lv_iload_n hx hb dXB_settle_21 rfl (lv_at hl 0 rfl) ?_
        refine jrVi (rest := [.int (jI k), .ref bp]) ⟨hx, hb, hml, hown, hts⟩ (c_XB_knows l dC dI cA ba bt bp bl bh bq br bd bg bf (ft k) (by first | assumption | omega) (by first | assumption | omega)) (cwV 1 hts (jG_V tw_281 tw_216 tw_217 tw_5 tw_218) rfl rfl rfl (by decide +kernel) (by rw [hR]; exact ⟨Nat.le_of_ble_eq_true rfl, Nat.le_of_ble_eq_true rfl⟩)) hK hP hN [0] rfl 0 0 rfl rfl rfl rfl hl.1 rfl (Nat.le_of_ble_eq_true rfl) dXB_settle_22 (by rw [hR]; exact ⟨Nat.le_of_ble_eq_true rfl, Nat.le_of_ble_eq_true rfl⟩) ?_
        have f := f_XB_knows_b bg bf (ft k) (by first | assumption | omega) (by first | assumption | omega)
        have f1 := f_XB_knows_c bg bf (ft k) (by first | assumption | omega) (by first | assumption | omega)
        refine ji_if_eq (tgt := 40) hx hb dXB_settle_25 (by decide) (by omega) (fun c25_ => ?_) (fun c25_ => ?_)
        · refine ji_iconst hx hb dXB_settle_40 ?_
          refine ji_iast hx hb hK hP hD hS 2 0 rfl rfl ⟨by omega, by omega⟩ (by decide) dXB_settle_41 (fun H locs hP hD hS => ?_)
          have hP : va_P (dC, dI) vwCl [(ba, .inr (0, [.ref bt, .ref bp, .ref bl, .ref bh, .ref bq, .ref br, .ref bd, .int (jI bg), .int (jI bf)])), (bt, .inl (cA, 31, .inl (jA ft))), (bp, .inl (cA, 31, .inl (jA (jset fa k 0))))] H := hP
          have hD : va_D A [(ba, .inr (0, [.ref bt, .ref bp, .ref bl, .ref bh, .ref bq, .ref br, .ref bd, .int (jI bg), .int (jI bf)])), (bt, .inl (cA, 31, .inl (jA ft))), (bp, .inl (cA, 31, .inl (jA (jset fa k 0))))] := hD
          refine ji_iinc (k := 1) (lv' := [(1, .int (jI (k + 1))), (2, .int (jI (ft k))), (0, .ref ba)]) hx hb dXB_settle_42 hl rfl (by decide) rfl (fun ls hl => ?_)
          refine lv_goto (tgt := 2) hx hb dXB_settle_45 (by decide) ?_
          exact ih2 (k + 1) (jset fa k 0) (by omega) (Eq.trans (by rw [f_XB_settle_L2_s]; rw [if_neg (Int.not_lt.mpr c5_), if_pos c25_]; try rfl) hF) (by first | assumption | omega) _ _ hP hD hS ls (lv_sub hl [0, 2] rfl)
        · refine lv_aload_n hx hb dXB_settle_28 rfl (lv_at hl 2 rfl) ?_
          refine lv_iload_n hx hb dXB_settle_29 rfl (lv_at hl 1 rfl) ?_
          refine jrVi (rest := [.int (jI k), .ref bp]) ⟨hx, hb, hml, hown, hts⟩ (c_XB_onRing l dC dI cA ba bt bp bl bh bq br bd bg bf ft k (by first | assumption | omega) (by first | assumption | omega)) (cwV 1 hts (jG_V tw_282 tw_283 tw_284 tw_5 tw_285) rfl rfl rfl (by decide +kernel) (by rw [hR]; exact ⟨Nat.le_of_ble_eq_true rfl, Nat.le_of_ble_eq_true rfl⟩)) hK hP hN [0, 1] rfl 0 0 rfl rfl rfl rfl hl.1 rfl (Nat.le_of_ble_eq_true rfl) dXB_settle_30 (by rw [hR]; exact ⟨Nat.le_of_ble_eq_true rfl, Nat.le_of_ble_eq_true rfl⟩) ?_
          have f2 := f_XB_onRing_b bg bf ft k (by first | assumption | omega) (by first | assumption | omega)
          refine ji_if_ne (tgt := 40) hx hb dXB_settle_33 (by decide) (by omega) (fun c33_ => ?_) (fun c33_ => ?_)
          · refine ji_iconst hx hb dXB_settle_40 ?_
            refine ji_iast hx hb hK hP hD hS 2 0 rfl rfl ⟨by omega, by omega⟩ (by decide) dXB_settle_41 (fun H locs hP hD hS => ?_)
            have hP : va_P (dC, dI) vwCl [(ba, .inr (0, [.ref bt, .ref bp, .ref bl, .ref bh, .ref bq, .ref br, .ref bd, .int (jI bg), .int (jI bf)])), (bt, .inl (cA, 31, .inl (jA ft))), (bp, .inl (cA, 31, .inl (jA (jset fa k 0))))] H := hP
            have hD : va_D A [(ba, .inr (0, [.ref bt, .ref bp, .ref bl, .ref bh, .ref bq, .ref br, .ref bd, .int (jI bg), .int (jI bf)])), (bt, .inl (cA, 31, .inl (jA ft))), (bp, .inl (cA, 31, .inl (jA (jset fa k 0))))] := hD
            refine ji_iinc (k := 1) (lv' := [(1, .int (jI (k + 1))), (2, .int (jI (ft k))), (0, .ref ba)]) hx hb dXB_settle_42 hl rfl (by decide) rfl (fun ls hl => ?_)
            refine lv_goto (tgt := 2) hx hb dXB_settle_45 (by decide) ?_
            exact ih2 (k + 1) (jset fa k 0) (by omega) (Eq.trans (by rw [f_XB_settle_L2_s]; rw [if_neg (Int.not_lt.mpr c5_), if_neg c25_, if_neg c33_]; try rfl) hF) (by first | assumption | omega) _ _ hP hD hS ls (lv_sub hl [0, 2] rfl)
          · refine lv_iload_n hx hb dXB_settle_36 rfl (lv_at hl 0 rfl) ?_
            refine lv_goto (tgt := 41) hx hb dXB_settle_37 (by decide) ?_
            refine ji_iast hx hb hK hP hD hS 2 0 rfl rfl ⟨by omega, by omega⟩ (by decide) dXB_settle_41 (fun H locs hP hD hS => ?_)
            have hP : va_P (dC, dI) vwCl [(ba, .inr (0, [.ref bt, .ref bp, .ref bl, .ref bh, .ref bq, .ref br, .ref bd, .int (jI bg), .int (jI bf)])), (bt, .inl (cA, 31, .inl (jA ft))), (bp, .inl (cA, 31, .inl (jA (jset fa k (ft k)))))] H := hP
            have hD : va_D A [(ba, .inr (0, [.ref bt, .ref bp, .ref bl, .ref bh, .ref bq, .ref br, .ref bd, .int (jI bg), .int (jI bf)])), (bt, .inl (cA, 31, .inl (jA ft))), (bp, .inl (cA, 31, .inl (jA (jset fa k (ft k)))))] := hD
            refine ji_iinc (k := 1) (lv' := [(1, .int (jI (k + 1))), (2, .int (jI (ft k))), (0, .ref ba)]) hx hb dXB_settle_42 hl rfl (by decide) rfl (fun ls hl => ?_)
            refine lv_goto (tgt := 2) hx hb dXB_settle_45 (by decide) ?_
            exact ih2 (k + 1) (jset fa k (ft k)) (by omega) (Eq.trans (by rw [f_XB_settle_L2_s]; rw [if_neg (Int.not_lt.mpr c5_), if_neg c25_, if_pos c33_]; try rfl) hF) (by first | assumption | omega) _ _ hP hD hS ls (lv_sub hl [0, 2] rfl)
  exact loop2 (Int.toNat (31 - 1) + 1) 1 fp (by omega) (Eq.trans (by rw [f_XB_settle_s]; try rfl) rfl) (by first | assumption | omega) _ _ hP hD hS ls (lv_sub hl [0, 1] rfl)
noncomputable def g_XB_endOf_L6 (bg : Int) (bf : Int) (fp : Int → Int) (fl : Int → Int) (fh : Int → Int) (zg : Int) (ze : Int) (zn : Int) : Nat → Int → Int → Int
  | 0, _, _ => 0
  | n9 + 1, v, k =>
    if k < 30 then
      if 0 < v then
        if (f_XB_tellsSpan bg bf fh v ze) = 0 then
          g_XB_endOf_L6 bg bf fp fl fh zg ze zn n9 (fp v) (k + 1)
        else
          if v = 0 then
            if zn = 0 then
              0
            else
              100000
          else
            if zn = 0 then
              fl ((v * 8) + ze)
            else
              fh ((v * 8) + ze)
      else
        if v = 0 then
          if zn = 0 then
            0
          else
            100000
        else
          if zn = 0 then
            fl ((v * 8) + ze)
          else
            fh ((v * 8) + ze)
    else
      if v = 0 then
        if zn = 0 then
          0
        else
          100000
      else
        if zn = 0 then
          fl ((v * 8) + ze)
        else
          fh ((v * 8) + ze)
noncomputable def f_XB_endOf_L6 : Int → Int → (Int → Int) → (Int → Int) → (Int → Int) → Int → Int → Int → Nat → Int → Int → Int := jopq g_XB_endOf_L6
theorem f_XB_endOf_L6_q : f_XB_endOf_L6 = g_XB_endOf_L6 := jopq_eq _
theorem f_XB_endOf_L6_s (bg : Int) (bf : Int) (fp : Int → Int) (fl : Int → Int) (fh : Int → Int) (zg : Int) (ze : Int) (zn : Int) (n9 : Nat) (v : Int) (k : Int) : f_XB_endOf_L6 bg bf fp fl fh zg ze zn (n9 + 1) v k = (
    if k < 30 then
      if 0 < v then
        if (f_XB_tellsSpan bg bf fh v ze) = 0 then
          f_XB_endOf_L6 bg bf fp fl fh zg ze zn n9 (fp v) (k + 1)
        else
          if v = 0 then
            if zn = 0 then
              0
            else
              100000
          else
            if zn = 0 then
              fl ((v * 8) + ze)
            else
              fh ((v * 8) + ze)
      else
        if v = 0 then
          if zn = 0 then
            0
          else
            100000
        else
          if zn = 0 then
            fl ((v * 8) + ze)
          else
            fh ((v * 8) + ze)
    else
      if v = 0 then
        if zn = 0 then
          0
        else
          100000
      else
        if zn = 0 then
          fl ((v * 8) + ze)
        else
          fh ((v * 8) + ze)
  ) := by rw [f_XB_endOf_L6_q]; rfl
theorem f_XB_endOf_L6_z (bg : Int) (bf : Int) (fp : Int → Int) (fl : Int → Int) (fh : Int → Int) (zg : Int) (ze : Int) (zn : Int) (v : Int) (k : Int) : f_XB_endOf_L6 bg bf fp fl fh zg ze zn 0 v k = 0 := by rw [f_XB_endOf_L6_q]; rfl
noncomputable def g_XB_endOf (bg : Int) (bf : Int) (fp : Int → Int) (fl : Int → Int) (fh : Int → Int) (zg : Int) (ze : Int) (zn : Int) : Int :=
  f_XB_endOf_L6 bg bf fp fl fh zg ze zn (Int.toNat (30 - 0) + 1) zg 0
noncomputable def f_XB_endOf : Int → Int → (Int → Int) → (Int → Int) → (Int → Int) → Int → Int → Int → Int := jopq g_XB_endOf
theorem f_XB_endOf_q : f_XB_endOf = g_XB_endOf := jopq_eq _
theorem f_XB_endOf_s (bg : Int) (bf : Int) (fp : Int → Int) (fl : Int → Int) (fh : Int → Int) (zg : Int) (ze : Int) (zn : Int) : f_XB_endOf bg bf fp fl fh zg ze zn = (
    f_XB_endOf_L6 bg bf fp fl fh zg ze zn (Int.toNat (30 - 0) + 1) zg 0
  ) := by rw [f_XB_endOf_q]; rfl
theorem f_XB_endOf_L (bg bf : Int) (fp fl fh : Int → Int) (zg ze zn : Int) (hbl : ∀ i, 0 ≤ fl i ∧ fl i ≤ 100000) (hbh : ∀ i, -1 ≤ fh i ∧ fh i ≤ 100000) : ∀ (n : Nat) (v k : Int), -1 ≤ f_XB_endOf_L6 bg bf fp fl fh zg ze zn n v k ∧ f_XB_endOf_L6 bg bf fp fl fh zg ze zn n v k ≤ 100000 := by
  intro n
  induction n with
  | zero => intro v k; simp only [f_XB_endOf_L6_z] <;> omega
  | succ n ih =>
    intro v k
    have h1 := hbl (v * 8 + ze)
    have h2 := hbh (v * 8 + ze)
    rw [f_XB_endOf_L6_s]
    (repeat' split) <;> first | omega | exact ih _ _
theorem f_XB_endOf_b (bg : Int) (bf : Int) (fp : Int → Int) (fl : Int → Int) (fh : Int → Int) (zg : Int) (ze : Int) (zn : Int) (hbp : ∀ i, 0 ≤ fp i ∧ fp i ≤ 30) (hbl : ∀ i, 0 ≤ fl i ∧ fl i ≤ 100000) (hbh : ∀ i, -1 ≤ fh i ∧ fh i ≤ 100000) (hzg : 0 ≤ zg ∧ zg ≤ 30) (hze : 0 ≤ ze ∧ ze < 8) (hzn : 0 ≤ zn ∧ zn < 2) : -1 ≤ (f_XB_endOf bg bf fp fl fh zg ze zn) ∧ (f_XB_endOf bg bf fp fl fh zg ze zn) ≤ 100000 := by rw [f_XB_endOf_s]; exact f_XB_endOf_L _ _ _ _ _ _ _ _ hbl hbh _ _ _
set_option maxHeartbeats 4000000 in
set_option maxRecDepth 100000 in
theorem c_XB_endOf (l : Launch) (dC : Nat → ClassId) (dI : Nat → Nat → Nat) (cA : ClassId) (ba : Nat) (bt : Nat) (bp : Nat) (bl : Nat) (bh : Nat) (bq : Nat) (br : Nat) (bd : Nat) (bg : Int) (bf : Int) (fp : Int → Int) (fl : Int → Int) (fh : Int → Int) (zg : Int) (ze : Int) (zn : Int) (hbp : ∀ i, 0 ≤ fp i ∧ fp i ≤ 30) (hbl : ∀ i, 0 ≤ fl i ∧ fl i ≤ 100000) (hbh : ∀ i, -1 ≤ fh i ∧ fh i ≤ 100000) (hzg : 0 ≤ zg ∧ zg ≤ 30) (hze : 0 ≤ ze ∧ ze < 8) (hzn : 0 ≤ zn ∧ zn < 2) : Met l yXB_endOf (Cond.code yXB_endOf cXB_endOf 6 (some .int) :: TBL) ({ frames := 1, cells := 0, slots := 0, locals := 22 } : Room) (va_Pc [.ref ba, .int (jI zg), .int (jI ze), .int (jI zn)] (jB (dC, dI) [(cA, .int)] [(ba, .inr (0, [.ref bt, .ref bp, .ref bl, .ref bh, .ref bq, .ref br, .ref bd, .int (jI bg), .int (jI bf)])), (bp, .inl (cA, 31, .inl (jA fp))), (bl, .inl (cA, 248, .inl (jA fl))), (bh, .inl (cA, 248, .inl (jA fh)))])) (vp_Si (fun r => r = jI (f_XB_endOf bg bf fp fl fh zg ze zn))) 0 0 (fun _ => False) := by
  refine jMet (cc := cXB_endOf) (maxL := 6) (ret := some .int) (by decide) rfl ?_
  intro p e s m args below meth c s₁ R Q hR hQ B hml hv
  obtain ⟨rfl, hP, hK, hN⟩ := hv
  have hx := B.exec
  have hb := B.bytes
  have hr := B.returns
  have hts := atoms_spec (ws := Cond.code yXB_endOf cXB_endOf 6 (some .int) :: TBL) B.pre
  have hown : s.vm.findClass RXB = some m.cls := findClass_of_methodNamed B.named
  have hlocks := B.notSynchronized
  have hP : va_P (dC, dI) vwCl [(ba, .inr (0, [.ref bt, .ref bp, .ref bl, .ref bh, .ref bq, .ref br, .ref bd, .int (jI bg), .int (jI bf)])), (bp, .inl (cA, 31, .inl (jA fp))), (bl, .inl (cA, 248, .inl (jA fl))), (bh, .inl (cA, 248, .inl (jA fh)))] s.heap := hP
  have hl := lv_entry ([.ref ba, .int (jI zg), .int (jI ze), .int (jI zn)]) (n := 6) (Nat.le_of_ble_eq_true rfl)
  rw [lg_entry_eq]
  generalize (lg_sl ([.ref ba, .int (jI zg), .int (jI ze), .int (jI zn)]) ++ List.replicate (6 - (lg_sl ([.ref ba, .int (jI zg), .int (jI ze), .int (jI zn)])).length) Slot.unset).toArray = ls at hl ⊢
  have hl : lv_has ls 6 [(0, .ref ba), (1, .int (jI zg)), (2, .int (jI ze)), (3, .int (jI zn))] := hl
  refine lv_iload_n hx hb dXB_endOf_0 rfl (lv_at hl 1 rfl) ?_
  refine lv_istore (lv' := [(4, .int (jI zg)), (0, .ref ba), (1, .int (jI zg)), (2, .int (jI ze)), (3, .int (jI zn))]) hx hb dXB_endOf_1 hl (by decide) rfl (fun ls hl => ?_)
  refine ji_iconst hx hb dXB_endOf_3 ?_
  refine lv_istore (lv' := [(5, .int (jI 0)), (4, .int (jI zg)), (0, .ref ba), (1, .int (jI zg)), (2, .int (jI ze)), (3, .int (jI zn))]) hx hb dXB_endOf_4 hl (by decide) rfl (fun ls hl => ?_)
  have loop6 : ∀ (n9 : Nat) (v : Int) (k : Int) , 30 - k < (n9 : Int) → f_XB_endOf_L6 bg bf fp fl fh zg ze zn n9 v k = f_XB_endOf bg bf fp fl fh zg ze zn → 0 ≤ k ∧ k ≤ 30 → 0 ≤ v ∧ v ≤ 30 → ∀ ls : Array Slot, lv_has ls 6 [(5, .int (jI k)), (4, .int (jI v)), (0, .ref ba), (1, .int (jI zg)), (2, .int (jI ze)), (3, .int (jI zn))] → W p l e R s m ([.ref ba, .int (jI zg), .int (jI ze), .int (jI zn)] : List Value).toArray below meth c s.heap [] 0 0 Q (F0 m 6 ls []) := by
    intro n9
    induction n9 with
    | zero =>
      intro v k hm hF hk hv
      exact absurd hm (by omega)
    | succ n9 ih6 =>
      intro v k hm hF hk hv ls hl
      refine lv_iload hx hb dXB_endOf_6 (lv_at hl 0 rfl) ?_
      refine ji_bipush hx hb dXB_endOf_8 (by decide) ?_
      refine ji_icmp_ge (tgt := 43) hx hb dXB_endOf_10 (by decide) (by omega) (by omega) (fun c10_ => ?_) (fun c10_ => ?_)
      · refine lv_iload hx hb dXB_endOf_43 (lv_at hl 1 rfl) ?_
        refine ji_if_ne (tgt := 59) hx hb dXB_endOf_45 (by decide) (by omega) (fun c45_ => ?_) (fun c45_ => ?_)
        · refine lv_iload_n hx hb dXB_endOf_59 rfl (lv_at hl 5 rfl) ?_
          refine ji_if_ne (tgt := 78) hx hb dXB_endOf_60 (by decide) (by omega) (fun c60_ => ?_) (fun c60_ => ?_)
          · refine lv_aload_n hx hb dXB_endOf_78 rfl (lv_at hl 2 rfl) ?_
            refine va_get (D := (dC, dI)) (ci := 0) (v := .ref bh) (C := RXB) (T := TXB) (N := 9) hx hb hts (fun w h => jmem (inXB w h)) hown hK hP 0 rfl rfl 3 (by decide) (hts _ (jmem tw_76)) (fun _ h9 => h9) rfl dXB_endOf_79 ?_
            refine lv_iload hx hb dXB_endOf_82 (lv_at hl 1 rfl) ?_
            refine ji_bipush hx hb dXB_endOf_84 (by decide) ?_
            refine ji_imul hx hb dXB_endOf_86 ?_
            refine lv_iload_n hx hb dXB_endOf_87 rfl (lv_at hl 4 rfl) ?_
            refine ji_iadd hx hb dXB_endOf_88 ?_
            refine ji_iald hx hb hK hP 3 0 rfl rfl ⟨by omega, by omega⟩ (by decide) dXB_endOf_89 ?_
            have rb := hbh ((v * 8) + ze)
            subst hQ
            exact W.iret (v := jI (fh ((v * 8) + ze))) hx hb hr (fun t ht hW => ⟨_, rfl, congrArg jI (Eq.trans (by rw [f_XB_endOf_L6_s]; rw [if_neg (Int.not_lt.mpr c10_), if_neg c45_, if_neg c60_]; try rfl) hF), ht⟩) (fun _ h => nomatch h) dXB_endOf_90
          · refine lv_aload_n hx hb dXB_endOf_63 rfl (lv_at hl 2 rfl) ?_
            refine va_get (D := (dC, dI)) (ci := 0) (v := .ref bl) (C := RXB) (T := TXB) (N := 9) hx hb hts (fun w h => jmem (inXB w h)) hown hK hP 0 rfl rfl 2 (by decide) (hts _ (jmem tw_75)) (fun _ h9 => h9) rfl dXB_endOf_64 ?_
            refine lv_iload hx hb dXB_endOf_67 (lv_at hl 1 rfl) ?_
            refine ji_bipush hx hb dXB_endOf_69 (by decide) ?_
            refine ji_imul hx hb dXB_endOf_71 ?_
            refine lv_iload_n hx hb dXB_endOf_72 rfl (lv_at hl 4 rfl) ?_
            refine ji_iadd hx hb dXB_endOf_73 ?_
            refine ji_iald hx hb hK hP 2 0 rfl rfl ⟨by omega, by omega⟩ (by decide) dXB_endOf_74 ?_
            have rb1 := hbl ((v * 8) + ze)
            refine lv_goto (tgt := 90) hx hb dXB_endOf_75 (by decide) ?_
            subst hQ
            exact W.iret (v := jI (fl ((v * 8) + ze))) hx hb hr (fun t ht hW => ⟨_, rfl, congrArg jI (Eq.trans (by rw [f_XB_endOf_L6_s]; rw [if_neg (Int.not_lt.mpr c10_), if_neg c45_, if_pos c60_]; try rfl) hF), ht⟩) (fun _ h => nomatch h) dXB_endOf_90
        · refine lv_iload_n hx hb dXB_endOf_48 rfl (lv_at hl 5 rfl) ?_
          refine ji_if_ne (tgt := 56) hx hb dXB_endOf_49 (by decide) (by omega) (fun c49_ => ?_) (fun c49_ => ?_)
          · refine lv_ldc hx hb hown (hts _ (jmem tw_442)) dXB_endOf_56 ?_
            refine ji_re (y := 100000) (by decide) ?_
            subst hQ
            exact W.iret (v := jI 100000) hx hb hr (fun t ht hW => ⟨_, rfl, congrArg jI (Eq.trans (by rw [f_XB_endOf_L6_s]; rw [if_neg (Int.not_lt.mpr c10_), if_pos c45_, if_neg c49_]; try rfl) hF), ht⟩) (fun _ h => nomatch h) dXB_endOf_58
          · refine ji_iconst hx hb dXB_endOf_52 ?_
            refine lv_goto (tgt := 58) hx hb dXB_endOf_53 (by decide) ?_
            subst hQ
            exact W.iret (v := jI 0) hx hb hr (fun t ht hW => ⟨_, rfl, congrArg jI (Eq.trans (by rw [f_XB_endOf_L6_s]; rw [if_neg (Int.not_lt.mpr c10_), if_pos c45_, if_pos c49_]; try rfl) hF), ht⟩) (fun _ h => nomatch h) dXB_endOf_58
      · refine lv_iload hx hb dXB_endOf_13 (lv_at hl 1 rfl) ?_
        refine ji_if_le (tgt := 43) hx hb dXB_endOf_15 (by decide) (by omega) (fun c15_ => ?_) (fun c15_ => ?_)
        · refine lv_iload hx hb dXB_endOf_43 (lv_at hl 1 rfl) ?_
          refine ji_if_ne (tgt := 59) hx hb dXB_endOf_45 (by decide) (by omega) (fun c45_2 => ?_) (fun c45_2 => ?_)
          · refine lv_iload_n hx hb dXB_endOf_59 rfl (lv_at hl 5 rfl) ?_
            refine ji_if_ne (tgt := 78) hx hb dXB_endOf_60 (by decide) (by omega) (fun c60_3 => ?_) (fun c60_3 => ?_)
            · refine lv_aload_n hx hb dXB_endOf_78 rfl (lv_at hl 2 rfl) ?_
              refine va_get (D := (dC, dI)) (ci := 0) (v := .ref bh) (C := RXB) (T := TXB) (N := 9) hx hb hts (fun w h => jmem (inXB w h)) hown hK hP 0 rfl rfl 3 (by decide) (hts _ (jmem tw_76)) (fun _ h9 => h9) rfl dXB_endOf_79 ?_
              refine lv_iload hx hb dXB_endOf_82 (lv_at hl 1 rfl) ?_
              refine ji_bipush hx hb dXB_endOf_84 (by decide) ?_
              refine ji_imul hx hb dXB_endOf_86 ?_
              refine lv_iload_n hx hb dXB_endOf_87 rfl (lv_at hl 4 rfl) ?_
              refine ji_iadd hx hb dXB_endOf_88 ?_
              refine ji_iald hx hb hK hP 3 0 rfl rfl ⟨by omega, by omega⟩ (by decide) dXB_endOf_89 ?_
              have rb4 := hbh ((v * 8) + ze)
              subst hQ
              exact W.iret (v := jI (fh ((v * 8) + ze))) hx hb hr (fun t ht hW => ⟨_, rfl, congrArg jI (Eq.trans (by rw [f_XB_endOf_L6_s]; rw [if_pos c10_, if_neg (Int.not_lt.mpr c15_), if_neg c45_2, if_neg c60_3]; try rfl) hF), ht⟩) (fun _ h => nomatch h) dXB_endOf_90
            · refine lv_aload_n hx hb dXB_endOf_63 rfl (lv_at hl 2 rfl) ?_
              refine va_get (D := (dC, dI)) (ci := 0) (v := .ref bl) (C := RXB) (T := TXB) (N := 9) hx hb hts (fun w h => jmem (inXB w h)) hown hK hP 0 rfl rfl 2 (by decide) (hts _ (jmem tw_75)) (fun _ h9 => h9) rfl dXB_endOf_64 ?_
              refine lv_iload hx hb dXB_endOf_67 (lv_at hl 1 rfl) ?_
              refine ji_bipush hx hb dXB_endOf_69 (by decide) ?_
              refine ji_imul hx hb dXB_endOf_71 ?_
              refine lv_iload_n hx hb dXB_endOf_72 rfl (lv_at hl 4 rfl) ?_
              refine ji_iadd hx hb dXB_endOf_73 ?_
              refine ji_iald hx hb hK hP 2 0 rfl rfl ⟨by omega, by omega⟩ (by decide) dXB_endOf_74 ?_
              have rb5 := hbl ((v * 8) + ze)
              refine lv_goto (tgt := 90) hx hb dXB_endOf_75 (by decide) ?_
              subst hQ
              exact W.iret (v := jI (fl ((v * 8) + ze))) hx hb hr (fun t ht hW => ⟨_, rfl, congrArg jI (Eq.trans (by rw [f_XB_endOf_L6_s]; rw [if_pos c10_, if_neg (Int.not_lt.mpr c15_), if_neg c45_2, if_pos c60_3]; try rfl) hF), ht⟩) (fun _ h => nomatch h) dXB_endOf_90
          · refine lv_iload_n hx hb dXB_endOf_48 rfl (lv_at hl 5 rfl) ?_
            refine ji_if_ne (tgt := 56) hx hb dXB_endOf_49 (by decide) (by omega) (fun c49_6 => ?_) (fun c49_6 => ?_)
            · refine lv_ldc hx hb hown (hts _ (jmem tw_442)) dXB_endOf_56 ?_
              refine ji_re (y := 100000) (by decide) ?_
              subst hQ
              exact W.iret (v := jI 100000) hx hb hr (fun t ht hW => ⟨_, rfl, congrArg jI (Eq.trans (by rw [f_XB_endOf_L6_s]; rw [if_pos c10_, if_neg (Int.not_lt.mpr c15_), if_pos c45_2, if_neg c49_6]; try rfl) hF), ht⟩) (fun _ h => nomatch h) dXB_endOf_58
            · refine ji_iconst hx hb dXB_endOf_52 ?_
              refine lv_goto (tgt := 58) hx hb dXB_endOf_53 (by decide) ?_
              subst hQ
              exact W.iret (v := jI 0) hx hb hr (fun t ht hW => ⟨_, rfl, congrArg jI (Eq.trans (by rw [f_XB_endOf_L6_s]; rw [if_pos c10_, if_neg (Int.not_lt.mpr c15_), if_pos c45_2, if_pos c49_6]; try rfl) hF), ht⟩) (fun _ h => nomatch h) dXB_endOf_58
        · refine lv_aload_n hx hb dXB_endOf_18 rfl (lv_at hl 2 rfl) ?_
          refine lv_iload hx hb dXB_endOf_19 (lv_at hl 1 rfl) ?_
          refine lv_iload_n hx hb dXB_endOf_21 rfl (lv_at hl 4 rfl) ?_
          refine jrVi (rest := []) ⟨hx, hb, hml, hown, hts⟩ (c_XB_tellsSpan l dC dI cA ba bt bp bl bh bq br bd bg bf fh v ze (by first | assumption | omega) (by first | assumption | omega) (by first | assumption | omega)) (cwV 2 hts (jG_V tw_441 tw_239 tw_240 tw_5 tw_241) rfl rfl rfl (by decide +kernel) (by rw [hR]; exact ⟨Nat.le_of_ble_eq_true rfl, Nat.le_of_ble_eq_true rfl⟩)) hK hP hN [0, 3] rfl 0 0 rfl rfl rfl rfl hl.1 rfl (Nat.le_of_ble_eq_true rfl) dXB_endOf_22 (by rw [hR]; exact ⟨Nat.le_of_ble_eq_true rfl, Nat.le_of_ble_eq_true rfl⟩) ?_
          have f := f_XB_tellsSpan_b bg bf fh v ze (by first | assumption | omega) (by first | assumption | omega) (by first | assumption | omega)
          have f7 := f_XB_tellsSpan_c bg bf fh v ze (by first | assumption | omega) (by first | assumption | omega) (by first | assumption | omega)
          refine ji_if_ne (tgt := 43) hx hb dXB_endOf_25 (by decide) (by omega) (fun c25_ => ?_) (fun c25_ => ?_)
          · refine lv_iload hx hb dXB_endOf_43 (lv_at hl 1 rfl) ?_
            refine ji_if_ne (tgt := 59) hx hb dXB_endOf_45 (by decide) (by omega) (fun c45_8 => ?_) (fun c45_8 => ?_)
            · refine lv_iload_n hx hb dXB_endOf_59 rfl (lv_at hl 5 rfl) ?_
              refine ji_if_ne (tgt := 78) hx hb dXB_endOf_60 (by decide) (by omega) (fun c60_9 => ?_) (fun c60_9 => ?_)
              · refine lv_aload_n hx hb dXB_endOf_78 rfl (lv_at hl 2 rfl) ?_
                refine va_get (D := (dC, dI)) (ci := 0) (v := .ref bh) (C := RXB) (T := TXB) (N := 9) hx hb hts (fun w h => jmem (inXB w h)) hown hK hP 0 rfl rfl 3 (by decide) (hts _ (jmem tw_76)) (fun _ h9 => h9) rfl dXB_endOf_79 ?_
                refine lv_iload hx hb dXB_endOf_82 (lv_at hl 1 rfl) ?_
                refine ji_bipush hx hb dXB_endOf_84 (by decide) ?_
                refine ji_imul hx hb dXB_endOf_86 ?_
                refine lv_iload_n hx hb dXB_endOf_87 rfl (lv_at hl 4 rfl) ?_
                refine ji_iadd hx hb dXB_endOf_88 ?_
                refine ji_iald hx hb hK hP 3 0 rfl rfl ⟨by omega, by omega⟩ (by decide) dXB_endOf_89 ?_
                have rb10 := hbh ((v * 8) + ze)
                subst hQ
                exact W.iret (v := jI (fh ((v * 8) + ze))) hx hb hr (fun t ht hW => ⟨_, rfl, congrArg jI (Eq.trans (by rw [f_XB_endOf_L6_s]; rw [if_pos c10_, if_pos c15_, if_neg c25_, if_neg c45_8, if_neg c60_9]; try rfl) hF), ht⟩) (fun _ h => nomatch h) dXB_endOf_90
              · refine lv_aload_n hx hb dXB_endOf_63 rfl (lv_at hl 2 rfl) ?_
                refine va_get (D := (dC, dI)) (ci := 0) (v := .ref bl) (C := RXB) (T := TXB) (N := 9) hx hb hts (fun w h => jmem (inXB w h)) hown hK hP 0 rfl rfl 2 (by decide) (hts _ (jmem tw_75)) (fun _ h9 => h9) rfl dXB_endOf_64 ?_
                refine lv_iload hx hb dXB_endOf_67 (lv_at hl 1 rfl) ?_
                refine ji_bipush hx hb dXB_endOf_69 (by decide) ?_
                refine ji_imul hx hb dXB_endOf_71 ?_
                refine lv_iload_n hx hb dXB_endOf_72 rfl (lv_at hl 4 rfl) ?_
                refine ji_iadd hx hb dXB_endOf_73 ?_
                refine ji_iald hx hb hK hP 2 0 rfl rfl ⟨by omega, by omega⟩ (by decide) dXB_endOf_74 ?_
                have rb11 := hbl ((v * 8) + ze)
                refine lv_goto (tgt := 90) hx hb dXB_endOf_75 (by decide) ?_
                subst hQ
                exact W.iret (v := jI (fl ((v * 8) + ze))) hx hb hr (fun t ht hW => ⟨_, rfl, congrArg jI (Eq.trans (by rw [f_XB_endOf_L6_s]; rw [if_pos c10_, if_pos c15_, if_neg c25_, if_neg c45_8, if_pos c60_9]; try rfl) hF), ht⟩) (fun _ h => nomatch h) dXB_endOf_90
            · refine lv_iload_n hx hb dXB_endOf_48 rfl (lv_at hl 5 rfl) ?_
              refine ji_if_ne (tgt := 56) hx hb dXB_endOf_49 (by decide) (by omega) (fun c49_12 => ?_) (fun c49_12 => ?_)
              · refine lv_ldc hx hb hown (hts _ (jmem tw_442)) dXB_endOf_56 ?_
                refine ji_re (y := 100000) (by decide) ?_
                subst hQ
                exact W.iret (v := jI 100000) hx hb hr (fun t ht hW => ⟨_, rfl, congrArg jI (Eq.trans (by rw [f_XB_endOf_L6_s]; rw [if_pos c10_, if_pos c15_, if_neg c25_, if_pos c45_8, if_neg c49_12]; try rfl) hF), ht⟩) (fun _ h => nomatch h) dXB_endOf_58
              · refine ji_iconst hx hb dXB_endOf_52 ?_
                refine lv_goto (tgt := 58) hx hb dXB_endOf_53 (by decide) ?_
                subst hQ
                exact W.iret (v := jI 0) hx hb hr (fun t ht hW => ⟨_, rfl, congrArg jI (Eq.trans (by rw [f_XB_endOf_L6_s]; rw [if_pos c10_, if_pos c15_, if_neg c25_, if_pos c45_8, if_pos c49_12]; try rfl) hF), ht⟩) (fun _ h => nomatch h) dXB_endOf_58
          · refine lv_aload_n hx hb dXB_endOf_28 rfl (lv_at hl 2 rfl) ?_
            refine va_get (D := (dC, dI)) (ci := 0) (v := .ref bp) (C := RXB) (T := TXB) (N := 9) hx hb hts (fun w h => jmem (inXB w h)) hown hK hP 0 rfl rfl 1 (by decide) (hts _ (jmem tw_74)) (fun _ h9 => h9) rfl dXB_endOf_29 ?_
            refine lv_iload hx hb dXB_endOf_32 (lv_at hl 1 rfl) ?_
            refine ji_iald hx hb hK hP 1 0 rfl rfl ⟨by omega, by omega⟩ (by decide) dXB_endOf_34 ?_
            have rb13 := hbp v
            refine lv_istore (lv' := [(4, .int (jI (fp v))), (5, .int (jI k)), (0, .ref ba), (1, .int (jI zg)), (2, .int (jI ze)), (3, .int (jI zn))]) hx hb dXB_endOf_35 hl (by decide) rfl (fun ls hl => ?_)
            refine ji_iinc (k := 1) (lv' := [(5, .int (jI (k + 1))), (4, .int (jI (fp v))), (0, .ref ba), (1, .int (jI zg)), (2, .int (jI ze)), (3, .int (jI zn))]) hx hb dXB_endOf_37 hl rfl (by decide) rfl (fun ls hl => ?_)
            refine lv_goto (tgt := 6) hx hb dXB_endOf_40 (by decide) ?_
            exact ih6 (fp v) (k + 1) (by omega) (Eq.trans (by rw [f_XB_endOf_L6_s]; rw [if_pos c10_, if_pos c15_, if_pos c25_]; try rfl) hF) (by first | assumption | omega) (by first | assumption | omega) ls (lv_sub hl [0, 1, 2, 3, 4, 5] rfl)
  exact loop6 (Int.toNat (30 - 0) + 1) zg 0 (by omega) (Eq.trans (by rw [f_XB_endOf_s]; try rfl) rfl) (by first | assumption | omega) (by first | assumption | omega) ls (lv_sub hl [0, 1, 2, 3, 4, 5] rfl)
noncomputable def g_XB_limitOf_L5 (bg : Int) (bf : Int) (fp : Int → Int) (fq : Int → Int) (zg : Int) (zk : Int) : Nat → Int → Int → Int
  | 0, _, _ => 0
  | n9 + 1, v, k =>
    if k < 30 then
      if 0 < v then
        if (f_XB_tellsLimit bg bf fq v zk) = 0 then
          g_XB_limitOf_L5 bg bf fp fq zg zk n9 (fp v) (k + 1)
        else
          if v = 0 then
            -1
          else
            fq ((v * 4) + zk)
      else
        if v = 0 then
          -1
        else
          fq ((v * 4) + zk)
    else
      if v = 0 then
        -1
      else
        fq ((v * 4) + zk)
noncomputable def f_XB_limitOf_L5 : Int → Int → (Int → Int) → (Int → Int) → Int → Int → Nat → Int → Int → Int := jopq g_XB_limitOf_L5
theorem f_XB_limitOf_L5_q : f_XB_limitOf_L5 = g_XB_limitOf_L5 := jopq_eq _
theorem f_XB_limitOf_L5_s (bg : Int) (bf : Int) (fp : Int → Int) (fq : Int → Int) (zg : Int) (zk : Int) (n9 : Nat) (v : Int) (k : Int) : f_XB_limitOf_L5 bg bf fp fq zg zk (n9 + 1) v k = (
    if k < 30 then
      if 0 < v then
        if (f_XB_tellsLimit bg bf fq v zk) = 0 then
          f_XB_limitOf_L5 bg bf fp fq zg zk n9 (fp v) (k + 1)
        else
          if v = 0 then
            -1
          else
            fq ((v * 4) + zk)
      else
        if v = 0 then
          -1
        else
          fq ((v * 4) + zk)
    else
      if v = 0 then
        -1
      else
        fq ((v * 4) + zk)
  ) := by rw [f_XB_limitOf_L5_q]; rfl
theorem f_XB_limitOf_L5_z (bg : Int) (bf : Int) (fp : Int → Int) (fq : Int → Int) (zg : Int) (zk : Int) (v : Int) (k : Int) : f_XB_limitOf_L5 bg bf fp fq zg zk 0 v k = 0 := by rw [f_XB_limitOf_L5_q]; rfl
noncomputable def g_XB_limitOf (bg : Int) (bf : Int) (fp : Int → Int) (fq : Int → Int) (zg : Int) (zk : Int) : Int :=
  f_XB_limitOf_L5 bg bf fp fq zg zk (Int.toNat (30 - 0) + 1) zg 0
noncomputable def f_XB_limitOf : Int → Int → (Int → Int) → (Int → Int) → Int → Int → Int := jopq g_XB_limitOf
theorem f_XB_limitOf_q : f_XB_limitOf = g_XB_limitOf := jopq_eq _
theorem f_XB_limitOf_s (bg : Int) (bf : Int) (fp : Int → Int) (fq : Int → Int) (zg : Int) (zk : Int) : f_XB_limitOf bg bf fp fq zg zk = (
    f_XB_limitOf_L5 bg bf fp fq zg zk (Int.toNat (30 - 0) + 1) zg 0
  ) := by rw [f_XB_limitOf_q]; rfl
theorem f_XB_limitOf_L (bg bf : Int) (fp fq : Int → Int) (zg zk : Int) (hbq : ∀ i, -1 ≤ fq i ∧ fq i ≤ 999999) : ∀ (n : Nat) (v k : Int), -1 ≤ f_XB_limitOf_L5 bg bf fp fq zg zk n v k ∧ f_XB_limitOf_L5 bg bf fp fq zg zk n v k ≤ 999999 := by
  intro n
  induction n with
  | zero => intro v k; simp only [f_XB_limitOf_L5_z] <;> omega
  | succ n ih =>
    intro v k
    have h1 := hbq (v * 4 + zk)
    rw [f_XB_limitOf_L5_s]
    (repeat' split) <;> first | omega | exact ih _ _
theorem f_XB_limitOf_b (bg : Int) (bf : Int) (fp : Int → Int) (fq : Int → Int) (zg : Int) (zk : Int) (hbp : ∀ i, 0 ≤ fp i ∧ fp i ≤ 30) (hbq : ∀ i, -1 ≤ fq i ∧ fq i ≤ 999999) (hzg : 0 ≤ zg ∧ zg ≤ 30) (hzk : 0 ≤ zk ∧ zk < 4) : -1 ≤ (f_XB_limitOf bg bf fp fq zg zk) ∧ (f_XB_limitOf bg bf fp fq zg zk) ≤ 999999 := by rw [f_XB_limitOf_s]; exact f_XB_limitOf_L _ _ _ _ _ _ hbq _ _ _
set_option maxHeartbeats 4000000 in
set_option maxRecDepth 100000 in
theorem c_XB_limitOf (l : Launch) (dC : Nat → ClassId) (dI : Nat → Nat → Nat) (cA : ClassId) (ba : Nat) (bt : Nat) (bp : Nat) (bl : Nat) (bh : Nat) (bq : Nat) (br : Nat) (bd : Nat) (bg : Int) (bf : Int) (fp : Int → Int) (fq : Int → Int) (zg : Int) (zk : Int) (hbp : ∀ i, 0 ≤ fp i ∧ fp i ≤ 30) (hbq : ∀ i, -1 ≤ fq i ∧ fq i ≤ 999999) (hzg : 0 ≤ zg ∧ zg ≤ 30) (hzk : 0 ≤ zk ∧ zk < 4) : Met l yXB_limitOf (Cond.code yXB_limitOf cXB_limitOf 5 (some .int) :: TBL) ({ frames := 1, cells := 0, slots := 0, locals := 22 } : Room) (va_Pc [.ref ba, .int (jI zg), .int (jI zk)] (jB (dC, dI) [(cA, .int)] [(ba, .inr (0, [.ref bt, .ref bp, .ref bl, .ref bh, .ref bq, .ref br, .ref bd, .int (jI bg), .int (jI bf)])), (bp, .inl (cA, 31, .inl (jA fp))), (bq, .inl (cA, 124, .inl (jA fq)))])) (vp_Si (fun r => r = jI (f_XB_limitOf bg bf fp fq zg zk))) 0 0 (fun _ => False) := by
  refine jMet (cc := cXB_limitOf) (maxL := 5) (ret := some .int) (by decide) rfl ?_
  intro p e s m args below meth c s₁ R Q hR hQ B hml hv
  obtain ⟨rfl, hP, hK, hN⟩ := hv
  have hx := B.exec
  have hb := B.bytes
  have hr := B.returns
  have hts := atoms_spec (ws := Cond.code yXB_limitOf cXB_limitOf 5 (some .int) :: TBL) B.pre
  have hown : s.vm.findClass RXB = some m.cls := findClass_of_methodNamed B.named
  have hlocks := B.notSynchronized
  have hP : va_P (dC, dI) vwCl [(ba, .inr (0, [.ref bt, .ref bp, .ref bl, .ref bh, .ref bq, .ref br, .ref bd, .int (jI bg), .int (jI bf)])), (bp, .inl (cA, 31, .inl (jA fp))), (bq, .inl (cA, 124, .inl (jA fq)))] s.heap := hP
  have hl := lv_entry ([.ref ba, .int (jI zg), .int (jI zk)]) (n := 5) (Nat.le_of_ble_eq_true rfl)
  rw [lg_entry_eq]
  generalize (lg_sl ([.ref ba, .int (jI zg), .int (jI zk)]) ++ List.replicate (5 - (lg_sl ([.ref ba, .int (jI zg), .int (jI zk)])).length) Slot.unset).toArray = ls at hl ⊢
  have hl : lv_has ls 5 [(0, .ref ba), (1, .int (jI zg)), (2, .int (jI zk))] := hl
  refine lv_iload_n hx hb dXB_limitOf_0 rfl (lv_at hl 1 rfl) ?_
  refine lv_istore_n (lv' := [(3, .int (jI zg)), (0, .ref ba), (1, .int (jI zg)), (2, .int (jI zk))]) hx hb dXB_limitOf_1 rfl hl (by decide) rfl (fun ls hl => ?_)
  refine ji_iconst hx hb dXB_limitOf_2 ?_
  refine lv_istore (lv' := [(4, .int (jI 0)), (3, .int (jI zg)), (0, .ref ba), (1, .int (jI zg)), (2, .int (jI zk))]) hx hb dXB_limitOf_3 hl (by decide) rfl (fun ls hl => ?_)
  have loop5 : ∀ (n9 : Nat) (v : Int) (k : Int) , 30 - k < (n9 : Int) → f_XB_limitOf_L5 bg bf fp fq zg zk n9 v k = f_XB_limitOf bg bf fp fq zg zk → 0 ≤ k ∧ k ≤ 30 → 0 ≤ v ∧ v ≤ 30 → ∀ ls : Array Slot, lv_has ls 5 [(4, .int (jI k)), (3, .int (jI v)), (0, .ref ba), (1, .int (jI zg)), (2, .int (jI zk))] → W p l e R s m ([.ref ba, .int (jI zg), .int (jI zk)] : List Value).toArray below meth c s.heap [] 0 0 Q (F0 m 5 ls []) := by
    intro n9
    induction n9 with
    | zero =>
      intro v k hm hF hk hv
      exact absurd hm (by omega)
    | succ n9 ih5 =>
      intro v k hm hF hk hv ls hl
      refine lv_iload hx hb dXB_limitOf_5 (lv_at hl 0 rfl) ?_
      refine ji_bipush hx hb dXB_limitOf_7 (by decide) ?_
      refine ji_icmp_ge (tgt := 38) hx hb dXB_limitOf_9 (by decide) (by omega) (by omega) (fun c9_ => ?_) (fun c9_ => ?_)
      · refine lv_iload_n hx hb dXB_limitOf_38 rfl (lv_at hl 1 rfl) ?_
        refine ji_if_ne (tgt := 46) hx hb dXB_limitOf_39 (by decide) (by omega) (fun c39_ => ?_) (fun c39_ => ?_)
        · refine lv_aload_n hx hb dXB_limitOf_46 rfl (lv_at hl 2 rfl) ?_
          refine va_get (D := (dC, dI)) (ci := 0) (v := .ref bq) (C := RXB) (T := TXB) (N := 9) hx hb hts (fun w h => jmem (inXB w h)) hown hK hP 0 rfl rfl 4 (by decide) (hts _ (jmem tw_77)) (fun _ h9 => h9) rfl dXB_limitOf_47 ?_
          refine lv_iload_n hx hb dXB_limitOf_50 rfl (lv_at hl 1 rfl) ?_
          refine ji_iconst hx hb dXB_limitOf_51 ?_
          refine ji_imul hx hb dXB_limitOf_52 ?_
          refine lv_iload_n hx hb dXB_limitOf_53 rfl (lv_at hl 4 rfl) ?_
          refine ji_iadd hx hb dXB_limitOf_54 ?_
          refine ji_iald hx hb hK hP 2 0 rfl rfl ⟨by omega, by omega⟩ (by decide) dXB_limitOf_55 ?_
          have rb := hbq ((v * 4) + zk)
          subst hQ
          exact W.iret (v := jI (fq ((v * 4) + zk))) hx hb hr (fun t ht hW => ⟨_, rfl, congrArg jI (Eq.trans (by rw [f_XB_limitOf_L5_s]; rw [if_neg (Int.not_lt.mpr c9_), if_neg c39_]; try rfl) hF), ht⟩) (fun _ h => nomatch h) dXB_limitOf_56
        · refine ji_iconst hx hb dXB_limitOf_42 ?_
          refine lv_goto (tgt := 56) hx hb dXB_limitOf_43 (by decide) ?_
          subst hQ
          exact W.iret (v := jI (-1)) hx hb hr (fun t ht hW => ⟨_, rfl, congrArg jI (Eq.trans (by rw [f_XB_limitOf_L5_s]; rw [if_neg (Int.not_lt.mpr c9_), if_pos c39_]; try rfl) hF), ht⟩) (fun _ h => nomatch h) dXB_limitOf_56
      · refine lv_iload_n hx hb dXB_limitOf_12 rfl (lv_at hl 1 rfl) ?_
        refine ji_if_le (tgt := 38) hx hb dXB_limitOf_13 (by decide) (by omega) (fun c13_ => ?_) (fun c13_ => ?_)
        · refine lv_iload_n hx hb dXB_limitOf_38 rfl (lv_at hl 1 rfl) ?_
          refine ji_if_ne (tgt := 46) hx hb dXB_limitOf_39 (by decide) (by omega) (fun c39_1 => ?_) (fun c39_1 => ?_)
          · refine lv_aload_n hx hb dXB_limitOf_46 rfl (lv_at hl 2 rfl) ?_
            refine va_get (D := (dC, dI)) (ci := 0) (v := .ref bq) (C := RXB) (T := TXB) (N := 9) hx hb hts (fun w h => jmem (inXB w h)) hown hK hP 0 rfl rfl 4 (by decide) (hts _ (jmem tw_77)) (fun _ h9 => h9) rfl dXB_limitOf_47 ?_
            refine lv_iload_n hx hb dXB_limitOf_50 rfl (lv_at hl 1 rfl) ?_
            refine ji_iconst hx hb dXB_limitOf_51 ?_
            refine ji_imul hx hb dXB_limitOf_52 ?_
            refine lv_iload_n hx hb dXB_limitOf_53 rfl (lv_at hl 4 rfl) ?_
            refine ji_iadd hx hb dXB_limitOf_54 ?_
            refine ji_iald hx hb hK hP 2 0 rfl rfl ⟨by omega, by omega⟩ (by decide) dXB_limitOf_55 ?_
            have rb2 := hbq ((v * 4) + zk)
            subst hQ
            exact W.iret (v := jI (fq ((v * 4) + zk))) hx hb hr (fun t ht hW => ⟨_, rfl, congrArg jI (Eq.trans (by rw [f_XB_limitOf_L5_s]; rw [if_pos c9_, if_neg (Int.not_lt.mpr c13_), if_neg c39_1]; try rfl) hF), ht⟩) (fun _ h => nomatch h) dXB_limitOf_56
          · refine ji_iconst hx hb dXB_limitOf_42 ?_
            refine lv_goto (tgt := 56) hx hb dXB_limitOf_43 (by decide) ?_
            subst hQ
            exact W.iret (v := jI (-1)) hx hb hr (fun t ht hW => ⟨_, rfl, congrArg jI (Eq.trans (by rw [f_XB_limitOf_L5_s]; rw [if_pos c9_, if_neg (Int.not_lt.mpr c13_), if_pos c39_1]; try rfl) hF), ht⟩) (fun _ h => nomatch h) dXB_limitOf_56
        · refine lv_aload_n hx hb dXB_limitOf_16 rfl (lv_at hl 2 rfl) ?_
          refine lv_iload_n hx hb dXB_limitOf_17 rfl (lv_at hl 1 rfl) ?_
          refine lv_iload_n hx hb dXB_limitOf_18 rfl (lv_at hl 4 rfl) ?_
          refine jrVi (rest := []) ⟨hx, hb, hml, hown, hts⟩ (c_XB_tellsLimit l dC dI cA ba bt bp bl bh bq br bd bg bf fq v zk (by first | assumption | omega) (by first | assumption | omega) (by first | assumption | omega)) (cwV 2 hts (jG_V tw_454 tw_261 tw_262 tw_5 tw_263) rfl rfl rfl (by decide +kernel) (by rw [hR]; exact ⟨Nat.le_of_ble_eq_true rfl, Nat.le_of_ble_eq_true rfl⟩)) hK hP hN [0, 2] rfl 0 0 rfl rfl rfl rfl hl.1 rfl (Nat.le_of_ble_eq_true rfl) dXB_limitOf_19 (by rw [hR]; exact ⟨Nat.le_of_ble_eq_true rfl, Nat.le_of_ble_eq_true rfl⟩) ?_
          have f := f_XB_tellsLimit_b bg bf fq v zk (by first | assumption | omega) (by first | assumption | omega) (by first | assumption | omega)
          have f3 := f_XB_tellsLimit_c bg bf fq v zk (by first | assumption | omega) (by first | assumption | omega) (by first | assumption | omega)
          refine ji_if_ne (tgt := 38) hx hb dXB_limitOf_22 (by decide) (by omega) (fun c22_ => ?_) (fun c22_ => ?_)
          · refine lv_iload_n hx hb dXB_limitOf_38 rfl (lv_at hl 1 rfl) ?_
            refine ji_if_ne (tgt := 46) hx hb dXB_limitOf_39 (by decide) (by omega) (fun c39_4 => ?_) (fun c39_4 => ?_)
            · refine lv_aload_n hx hb dXB_limitOf_46 rfl (lv_at hl 2 rfl) ?_
              refine va_get (D := (dC, dI)) (ci := 0) (v := .ref bq) (C := RXB) (T := TXB) (N := 9) hx hb hts (fun w h => jmem (inXB w h)) hown hK hP 0 rfl rfl 4 (by decide) (hts _ (jmem tw_77)) (fun _ h9 => h9) rfl dXB_limitOf_47 ?_
              refine lv_iload_n hx hb dXB_limitOf_50 rfl (lv_at hl 1 rfl) ?_
              refine ji_iconst hx hb dXB_limitOf_51 ?_
              refine ji_imul hx hb dXB_limitOf_52 ?_
              refine lv_iload_n hx hb dXB_limitOf_53 rfl (lv_at hl 4 rfl) ?_
              refine ji_iadd hx hb dXB_limitOf_54 ?_
              refine ji_iald hx hb hK hP 2 0 rfl rfl ⟨by omega, by omega⟩ (by decide) dXB_limitOf_55 ?_
              have rb5 := hbq ((v * 4) + zk)
              subst hQ
              exact W.iret (v := jI (fq ((v * 4) + zk))) hx hb hr (fun t ht hW => ⟨_, rfl, congrArg jI (Eq.trans (by rw [f_XB_limitOf_L5_s]; rw [if_pos c9_, if_pos c13_, if_neg c22_, if_neg c39_4]; try rfl) hF), ht⟩) (fun _ h => nomatch h) dXB_limitOf_56
            · refine ji_iconst hx hb dXB_limitOf_42 ?_
              refine lv_goto (tgt := 56) hx hb dXB_limitOf_43 (by decide) ?_
              subst hQ
              exact W.iret (v := jI (-1)) hx hb hr (fun t ht hW => ⟨_, rfl, congrArg jI (Eq.trans (by rw [f_XB_limitOf_L5_s]; rw [if_pos c9_, if_pos c13_, if_neg c22_, if_pos c39_4]; try rfl) hF), ht⟩) (fun _ h => nomatch h) dXB_limitOf_56
          · refine lv_aload_n hx hb dXB_limitOf_25 rfl (lv_at hl 2 rfl) ?_
            refine va_get (D := (dC, dI)) (ci := 0) (v := .ref bp) (C := RXB) (T := TXB) (N := 9) hx hb hts (fun w h => jmem (inXB w h)) hown hK hP 0 rfl rfl 1 (by decide) (hts _ (jmem tw_74)) (fun _ h9 => h9) rfl dXB_limitOf_26 ?_
            refine lv_iload_n hx hb dXB_limitOf_29 rfl (lv_at hl 1 rfl) ?_
            refine ji_iald hx hb hK hP 1 0 rfl rfl ⟨by omega, by omega⟩ (by decide) dXB_limitOf_30 ?_
            have rb6 := hbp v
            refine lv_istore_n (lv' := [(3, .int (jI (fp v))), (4, .int (jI k)), (0, .ref ba), (1, .int (jI zg)), (2, .int (jI zk))]) hx hb dXB_limitOf_31 rfl hl (by decide) rfl (fun ls hl => ?_)
            refine ji_iinc (k := 1) (lv' := [(4, .int (jI (k + 1))), (3, .int (jI (fp v))), (0, .ref ba), (1, .int (jI zg)), (2, .int (jI zk))]) hx hb dXB_limitOf_32 hl rfl (by decide) rfl (fun ls hl => ?_)
            refine lv_goto (tgt := 5) hx hb dXB_limitOf_35 (by decide) ?_
            exact ih5 (fp v) (k + 1) (by omega) (Eq.trans (by rw [f_XB_limitOf_L5_s]; rw [if_pos c9_, if_pos c13_, if_pos c22_]; try rfl) hF) (by first | assumption | omega) (by first | assumption | omega) ls (lv_sub hl [0, 1, 2, 3, 4] rfl)
  exact loop5 (Int.toNat (30 - 0) + 1) zg 0 (by omega) (Eq.trans (by rw [f_XB_limitOf_s]; try rfl) rfl) (by first | assumption | omega) (by first | assumption | omega) ls (lv_sub hl [0, 1, 2, 3, 4] rfl)
noncomputable def g_XB_routesOf_L4 (bg : Int) (bf : Int) (fp : Int → Int) (fr : Int → Int) (zg : Int) : Nat → Int → Int → Int
  | 0, _, _ => 0
  | n9 + 1, v, k =>
    if k < 30 then
      if 0 < v then
        if (fr v) = 0 then
          g_XB_routesOf_L4 bg bf fp fr zg n9 (fp v) (k + 1)
        else
          if v = 0 then
            0
          else
            fr v
      else
        if v = 0 then
          0
        else
          fr v
    else
      if v = 0 then
        0
      else
        fr v
noncomputable def f_XB_routesOf_L4 : Int → Int → (Int → Int) → (Int → Int) → Int → Nat → Int → Int → Int := jopq g_XB_routesOf_L4
theorem f_XB_routesOf_L4_q : f_XB_routesOf_L4 = g_XB_routesOf_L4 := jopq_eq _
theorem f_XB_routesOf_L4_s (bg : Int) (bf : Int) (fp : Int → Int) (fr : Int → Int) (zg : Int) (n9 : Nat) (v : Int) (k : Int) : f_XB_routesOf_L4 bg bf fp fr zg (n9 + 1) v k = (
    if k < 30 then
      if 0 < v then
        if (fr v) = 0 then
          f_XB_routesOf_L4 bg bf fp fr zg n9 (fp v) (k + 1)
        else
          if v = 0 then
            0
          else
            fr v
      else
        if v = 0 then
          0
        else
          fr v
    else
      if v = 0 then
        0
      else
        fr v
  ) := by rw [f_XB_routesOf_L4_q]; rfl
theorem f_XB_routesOf_L4_z (bg : Int) (bf : Int) (fp : Int → Int) (fr : Int → Int) (zg : Int) (v : Int) (k : Int) : f_XB_routesOf_L4 bg bf fp fr zg 0 v k = 0 := by rw [f_XB_routesOf_L4_q]; rfl
noncomputable def g_XB_routesOf (bg : Int) (bf : Int) (fp : Int → Int) (fr : Int → Int) (zg : Int) : Int :=
  f_XB_routesOf_L4 bg bf fp fr zg (Int.toNat (30 - 0) + 1) zg 0
noncomputable def f_XB_routesOf : Int → Int → (Int → Int) → (Int → Int) → Int → Int := jopq g_XB_routesOf
theorem f_XB_routesOf_q : f_XB_routesOf = g_XB_routesOf := jopq_eq _
theorem f_XB_routesOf_s (bg : Int) (bf : Int) (fp : Int → Int) (fr : Int → Int) (zg : Int) : f_XB_routesOf bg bf fp fr zg = (
    f_XB_routesOf_L4 bg bf fp fr zg (Int.toNat (30 - 0) + 1) zg 0
  ) := by rw [f_XB_routesOf_q]; rfl
theorem f_XB_routesOf_L (bg bf : Int) (fp fr : Int → Int) (zg : Int) (hbr : ∀ i, 0 ≤ fr i ∧ fr i < 2147483648) : ∀ (n : Nat) (v k : Int), 0 ≤ f_XB_routesOf_L4 bg bf fp fr zg n v k ∧ f_XB_routesOf_L4 bg bf fp fr zg n v k < 2147483648 := by
  intro n
  induction n with
  | zero => intro v k; simp only [f_XB_routesOf_L4_z] <;> omega
  | succ n ih =>
    intro v k
    have h1 := hbr v
    rw [f_XB_routesOf_L4_s]
    (repeat' split) <;> first | omega | exact ih _ _
theorem f_XB_routesOf_b (bg : Int) (bf : Int) (fp : Int → Int) (fr : Int → Int) (zg : Int) (hbp : ∀ i, 0 ≤ fp i ∧ fp i ≤ 30) (hbr : ∀ i, 0 ≤ fr i ∧ fr i < 2147483648) (hzg : 0 ≤ zg ∧ zg ≤ 30) : 0 ≤ (f_XB_routesOf bg bf fp fr zg) ∧ (f_XB_routesOf bg bf fp fr zg) < 2147483648 := by rw [f_XB_routesOf_s]; exact f_XB_routesOf_L _ _ _ _ _ hbr _ _ _
set_option maxHeartbeats 4000000 in
set_option maxRecDepth 100000 in
theorem c_XB_routesOf (l : Launch) (dC : Nat → ClassId) (dI : Nat → Nat → Nat) (cA : ClassId) (ba : Nat) (bt : Nat) (bp : Nat) (bl : Nat) (bh : Nat) (bq : Nat) (br : Nat) (bd : Nat) (bg : Int) (bf : Int) (fp : Int → Int) (fr : Int → Int) (zg : Int) (hbp : ∀ i, 0 ≤ fp i ∧ fp i ≤ 30) (hbr : ∀ i, 0 ≤ fr i ∧ fr i < 2147483648) (hzg : 0 ≤ zg ∧ zg ≤ 30) : Met l yXB_routesOf (Cond.code yXB_routesOf cXB_routesOf 4 (some .int) :: TBL) ({ frames := 0, cells := 0, slots := 0, locals := 0 } : Room) (va_Pc [.ref ba, .int (jI zg)] (jB (dC, dI) [(cA, .int)] [(ba, .inr (0, [.ref bt, .ref bp, .ref bl, .ref bh, .ref bq, .ref br, .ref bd, .int (jI bg), .int (jI bf)])), (bp, .inl (cA, 31, .inl (jA fp))), (br, .inl (cA, 31, .inl (jA fr)))])) (vp_Si (fun r => r = jI (f_XB_routesOf bg bf fp fr zg))) 0 0 (fun _ => False) := by
  refine jMet (cc := cXB_routesOf) (maxL := 4) (ret := some .int) (by decide) rfl ?_
  intro p e s m args below meth c s₁ R Q hR hQ B hml hv
  obtain ⟨rfl, hP, hK, hN⟩ := hv
  have hx := B.exec
  have hb := B.bytes
  have hr := B.returns
  have hts := atoms_spec (ws := Cond.code yXB_routesOf cXB_routesOf 4 (some .int) :: TBL) B.pre
  have hown : s.vm.findClass RXB = some m.cls := findClass_of_methodNamed B.named
  have hlocks := B.notSynchronized
  have hP : va_P (dC, dI) vwCl [(ba, .inr (0, [.ref bt, .ref bp, .ref bl, .ref bh, .ref bq, .ref br, .ref bd, .int (jI bg), .int (jI bf)])), (bp, .inl (cA, 31, .inl (jA fp))), (br, .inl (cA, 31, .inl (jA fr)))] s.heap := hP
  have hl := lv_entry ([.ref ba, .int (jI zg)]) (n := 4) (Nat.le_of_ble_eq_true rfl)
  rw [lg_entry_eq]
  generalize (lg_sl ([.ref ba, .int (jI zg)]) ++ List.replicate (4 - (lg_sl ([.ref ba, .int (jI zg)])).length) Slot.unset).toArray = ls at hl ⊢
  have hl : lv_has ls 4 [(0, .ref ba), (1, .int (jI zg))] := hl
  refine lv_iload_n hx hb dXB_routesOf_0 rfl (lv_at hl 1 rfl) ?_
  refine lv_istore_n (lv' := [(2, .int (jI zg)), (0, .ref ba), (1, .int (jI zg))]) hx hb dXB_routesOf_1 rfl hl (by decide) rfl (fun ls hl => ?_)
  refine ji_iconst hx hb dXB_routesOf_2 ?_
  refine lv_istore_n (lv' := [(3, .int (jI 0)), (2, .int (jI zg)), (0, .ref ba), (1, .int (jI zg))]) hx hb dXB_routesOf_3 rfl hl (by decide) rfl (fun ls hl => ?_)
  have loop4 : ∀ (n9 : Nat) (v : Int) (k : Int) , 30 - k < (n9 : Int) → f_XB_routesOf_L4 bg bf fp fr zg n9 v k = f_XB_routesOf bg bf fp fr zg → 0 ≤ k ∧ k ≤ 30 → 0 ≤ v ∧ v ≤ 30 → ∀ ls : Array Slot, lv_has ls 4 [(3, .int (jI k)), (2, .int (jI v)), (0, .ref ba), (1, .int (jI zg))] → W p l e R s m ([.ref ba, .int (jI zg)] : List Value).toArray below meth c s.heap [] 0 0 Q (F0 m 4 ls []) := by
    intro n9
    induction n9 with
    | zero =>
      intro v k hm hF hk hv
      exact absurd hm (by omega)
    | succ n9 ih4 =>
      intro v k hm hF hk hv ls hl
      refine lv_iload_n hx hb dXB_routesOf_4 rfl (lv_at hl 0 rfl) ?_
      refine ji_bipush hx hb dXB_routesOf_5 (by decide) ?_
      refine ji_icmp_ge (tgt := 36) hx hb dXB_routesOf_7 (by decide) (by omega) (by omega) (fun c7_ => ?_) (fun c7_ => ?_)
      · refine lv_iload_n hx hb dXB_routesOf_36 rfl (lv_at hl 1 rfl) ?_
        refine ji_if_ne (tgt := 44) hx hb dXB_routesOf_37 (by decide) (by omega) (fun c37_ => ?_) (fun c37_ => ?_)
        · refine lv_aload_n hx hb dXB_routesOf_44 rfl (lv_at hl 2 rfl) ?_
          refine va_get (D := (dC, dI)) (ci := 0) (v := .ref br) (C := RXB) (T := TXB) (N := 9) hx hb hts (fun w h => jmem (inXB w h)) hown hK hP 0 rfl rfl 5 (by decide) (hts _ (jmem tw_78)) (fun _ h9 => h9) rfl dXB_routesOf_45 ?_
          refine lv_iload_n hx hb dXB_routesOf_48 rfl (lv_at hl 1 rfl) ?_
          refine ji_iald hx hb hK hP 2 0 rfl rfl ⟨by omega, by omega⟩ (by decide) dXB_routesOf_49 ?_
          have rb := hbr v
          subst hQ
          exact W.iret (v := jI (fr v)) hx hb hr (fun t ht hW => ⟨_, rfl, congrArg jI (Eq.trans (by rw [f_XB_routesOf_L4_s]; rw [if_neg (Int.not_lt.mpr c7_), if_neg c37_]; try rfl) hF), ht⟩) (fun _ h => nomatch h) dXB_routesOf_50
        · refine ji_iconst hx hb dXB_routesOf_40 ?_
          refine lv_goto (tgt := 50) hx hb dXB_routesOf_41 (by decide) ?_
          subst hQ
          exact W.iret (v := jI 0) hx hb hr (fun t ht hW => ⟨_, rfl, congrArg jI (Eq.trans (by rw [f_XB_routesOf_L4_s]; rw [if_neg (Int.not_lt.mpr c7_), if_pos c37_]; try rfl) hF), ht⟩) (fun _ h => nomatch h) dXB_routesOf_50
      · refine lv_iload_n hx hb dXB_routesOf_10 rfl (lv_at hl 1 rfl) ?_
        refine ji_if_le (tgt := 36) hx hb dXB_routesOf_11 (by decide) (by omega) (fun c11_ => ?_) (fun c11_ => ?_)
        · refine lv_iload_n hx hb dXB_routesOf_36 rfl (lv_at hl 1 rfl) ?_
          refine ji_if_ne (tgt := 44) hx hb dXB_routesOf_37 (by decide) (by omega) (fun c37_1 => ?_) (fun c37_1 => ?_)
          · refine lv_aload_n hx hb dXB_routesOf_44 rfl (lv_at hl 2 rfl) ?_
            refine va_get (D := (dC, dI)) (ci := 0) (v := .ref br) (C := RXB) (T := TXB) (N := 9) hx hb hts (fun w h => jmem (inXB w h)) hown hK hP 0 rfl rfl 5 (by decide) (hts _ (jmem tw_78)) (fun _ h9 => h9) rfl dXB_routesOf_45 ?_
            refine lv_iload_n hx hb dXB_routesOf_48 rfl (lv_at hl 1 rfl) ?_
            refine ji_iald hx hb hK hP 2 0 rfl rfl ⟨by omega, by omega⟩ (by decide) dXB_routesOf_49 ?_
            have rb2 := hbr v
            subst hQ
            exact W.iret (v := jI (fr v)) hx hb hr (fun t ht hW => ⟨_, rfl, congrArg jI (Eq.trans (by rw [f_XB_routesOf_L4_s]; rw [if_pos c7_, if_neg (Int.not_lt.mpr c11_), if_neg c37_1]; try rfl) hF), ht⟩) (fun _ h => nomatch h) dXB_routesOf_50
          · refine ji_iconst hx hb dXB_routesOf_40 ?_
            refine lv_goto (tgt := 50) hx hb dXB_routesOf_41 (by decide) ?_
            subst hQ
            exact W.iret (v := jI 0) hx hb hr (fun t ht hW => ⟨_, rfl, congrArg jI (Eq.trans (by rw [f_XB_routesOf_L4_s]; rw [if_pos c7_, if_neg (Int.not_lt.mpr c11_), if_pos c37_1]; try rfl) hF), ht⟩) (fun _ h => nomatch h) dXB_routesOf_50
        · refine lv_aload_n hx hb dXB_routesOf_14 rfl (lv_at hl 2 rfl) ?_
          refine va_get (D := (dC, dI)) (ci := 0) (v := .ref br) (C := RXB) (T := TXB) (N := 9) hx hb hts (fun w h => jmem (inXB w h)) hown hK hP 0 rfl rfl 5 (by decide) (hts _ (jmem tw_78)) (fun _ h9 => h9) rfl dXB_routesOf_15 ?_
          refine lv_iload_n hx hb dXB_routesOf_18 rfl (lv_at hl 1 rfl) ?_
          refine ji_iald hx hb hK hP 2 0 rfl rfl ⟨by omega, by omega⟩ (by decide) dXB_routesOf_19 ?_
          have rb3 := hbr v
          refine ji_if_ne (tgt := 36) hx hb dXB_routesOf_20 (by decide) (by omega) (fun c20_ => ?_) (fun c20_ => ?_)
          · refine lv_iload_n hx hb dXB_routesOf_36 rfl (lv_at hl 1 rfl) ?_
            refine ji_if_ne (tgt := 44) hx hb dXB_routesOf_37 (by decide) (by omega) (fun c37_4 => ?_) (fun c37_4 => ?_)
            · refine lv_aload_n hx hb dXB_routesOf_44 rfl (lv_at hl 2 rfl) ?_
              refine va_get (D := (dC, dI)) (ci := 0) (v := .ref br) (C := RXB) (T := TXB) (N := 9) hx hb hts (fun w h => jmem (inXB w h)) hown hK hP 0 rfl rfl 5 (by decide) (hts _ (jmem tw_78)) (fun _ h9 => h9) rfl dXB_routesOf_45 ?_
              refine lv_iload_n hx hb dXB_routesOf_48 rfl (lv_at hl 1 rfl) ?_
              refine ji_iald hx hb hK hP 2 0 rfl rfl ⟨by omega, by omega⟩ (by decide) dXB_routesOf_49 ?_
              have rb5 := hbr v
              subst hQ
              exact W.iret (v := jI (fr v)) hx hb hr (fun t ht hW => ⟨_, rfl, congrArg jI (Eq.trans (by rw [f_XB_routesOf_L4_s]; rw [if_pos c7_, if_pos c11_, if_neg c20_, if_neg c37_4]; try rfl) hF), ht⟩) (fun _ h => nomatch h) dXB_routesOf_50
            · refine ji_iconst hx hb dXB_routesOf_40 ?_
              refine lv_goto (tgt := 50) hx hb dXB_routesOf_41 (by decide) ?_
              subst hQ
              exact W.iret (v := jI 0) hx hb hr (fun t ht hW => ⟨_, rfl, congrArg jI (Eq.trans (by rw [f_XB_routesOf_L4_s]; rw [if_pos c7_, if_pos c11_, if_neg c20_, if_pos c37_4]; try rfl) hF), ht⟩) (fun _ h => nomatch h) dXB_routesOf_50
          · refine lv_aload_n hx hb dXB_routesOf_23 rfl (lv_at hl 2 rfl) ?_
            refine va_get (D := (dC, dI)) (ci := 0) (v := .ref bp) (C := RXB) (T := TXB) (N := 9) hx hb hts (fun w h => jmem (inXB w h)) hown hK hP 0 rfl rfl 1 (by decide) (hts _ (jmem tw_74)) (fun _ h9 => h9) rfl dXB_routesOf_24 ?_
            refine lv_iload_n hx hb dXB_routesOf_27 rfl (lv_at hl 1 rfl) ?_
            refine ji_iald hx hb hK hP 1 0 rfl rfl ⟨by omega, by omega⟩ (by decide) dXB_routesOf_28 ?_
            have rb6 := hbp v
            refine lv_istore_n (lv' := [(2, .int (jI (fp v))), (3, .int (jI k)), (0, .ref ba), (1, .int (jI zg))]) hx hb dXB_routesOf_29 rfl hl (by decide) rfl (fun ls hl => ?_)
            refine ji_iinc (k := 1) (lv' := [(3, .int (jI (k + 1))), (2, .int (jI (fp v))), (0, .ref ba), (1, .int (jI zg))]) hx hb dXB_routesOf_30 hl rfl (by decide) rfl (fun ls hl => ?_)
            refine lv_goto (tgt := 4) hx hb dXB_routesOf_33 (by decide) ?_
            exact ih4 (fp v) (k + 1) (by omega) (Eq.trans (by rw [f_XB_routesOf_L4_s]; rw [if_pos c7_, if_pos c11_, if_pos c20_]; try rfl) hF) (by first | assumption | omega) (by first | assumption | omega) ls (lv_sub hl [0, 1, 2, 3] rfl)
  exact loop4 (Int.toNat (30 - 0) + 1) zg 0 (by omega) (Eq.trans (by rw [f_XB_routesOf_s]; try rfl) rfl) (by first | assumption | omega) (by first | assumption | omega) ls (lv_sub hl [0, 1, 2, 3] rfl)
end
section
theorem jmul_b {a b A B : Int} (h0 : 0 ≤ a) (h1 : a ≤ A) (h2 : 0 ≤ b) (h3 : b ≤ B) : 0 ≤ a * b ∧ a * b ≤ A * B := ⟨Int.mul_nonneg h0 h2, Int.mul_le_mul h1 h3 h2 (Int.le_trans h0 h1)⟩
theorem jtdiv_b {d : Int} (h : 0 < d) : 0 ≤ (232792560 : Int).tdiv d ∧ (232792560 : Int).tdiv d ≤ 232792560 := by
  rw [Int.tdiv_eq_ediv_of_nonneg (by decide)]
  exact ⟨Int.ediv_nonneg (by decide) (by omega), Int.ediv_le_self _ (by decide)⟩
theorem jterm_b {a d : Int} (h0 : -1 ≤ a) (h1 : a ≤ 100000) (h : 0 < d) : -232792560 ≤ a * (232792560 : Int).tdiv d ∧ a * (232792560 : Int).tdiv d ≤ 23279256000000 := by
  have hd := jtdiv_b h
  by_cases ha : 0 ≤ a
  · have := jmul_b ha h1 hd.1 hd.2
    omega
  · have e : a = -1 := by omega
    subst e
    omega
noncomputable def g_XB_scaledSum_L5 (bg : Int) (bf : Int) (fd : Int → Int) (zk : Int) (fw : Int → Int) : Nat → Int → Int → Int
  | 0, _, _ => 0
  | n9 + 1, v, k =>
    if k < 8 then
      if k < 8 then
        if 0 < (f_XB_divisorOf bg bf fd zk k) then
          g_XB_scaledSum_L5 bg bf fd zk fw n9 (v + ((fw k) * (Int.tdiv 232792560 (f_XB_divisorOf bg bf fd zk k)))) (k + 1)
        else
          g_XB_scaledSum_L5 bg bf fd zk fw n9 v (k + 1)
      else
        v
    else
      v
noncomputable def f_XB_scaledSum_L5 : Int → Int → (Int → Int) → Int → (Int → Int) → Nat → Int → Int → Int := jopq g_XB_scaledSum_L5
theorem f_XB_scaledSum_L5_q : f_XB_scaledSum_L5 = g_XB_scaledSum_L5 := jopq_eq _
theorem f_XB_scaledSum_L5_s (bg : Int) (bf : Int) (fd : Int → Int) (zk : Int) (fw : Int → Int) (n9 : Nat) (v : Int) (k : Int) : f_XB_scaledSum_L5 bg bf fd zk fw (n9 + 1) v k = (
    if k < 8 then
      if k < 8 then
        if 0 < (f_XB_divisorOf bg bf fd zk k) then
          f_XB_scaledSum_L5 bg bf fd zk fw n9 (v + ((fw k) * (Int.tdiv 232792560 (f_XB_divisorOf bg bf fd zk k)))) (k + 1)
        else
          f_XB_scaledSum_L5 bg bf fd zk fw n9 v (k + 1)
      else
        v
    else
      v
  ) := by rw [f_XB_scaledSum_L5_q]; rfl
theorem f_XB_scaledSum_L5_z (bg : Int) (bf : Int) (fd : Int → Int) (zk : Int) (fw : Int → Int) (v : Int) (k : Int) : f_XB_scaledSum_L5 bg bf fd zk fw 0 v k = 0 := by rw [f_XB_scaledSum_L5_q]; rfl
noncomputable def g_XB_scaledSum (bg : Int) (bf : Int) (fd : Int → Int) (zk : Int) (fw : Int → Int) : Int :=
  f_XB_scaledSum_L5 bg bf fd zk fw (Int.toNat (8 - 0) + 1) 0 0
noncomputable def f_XB_scaledSum : Int → Int → (Int → Int) → Int → (Int → Int) → Int := jopq g_XB_scaledSum
theorem f_XB_scaledSum_q : f_XB_scaledSum = g_XB_scaledSum := jopq_eq _
theorem f_XB_scaledSum_s (bg : Int) (bf : Int) (fd : Int → Int) (zk : Int) (fw : Int → Int) : f_XB_scaledSum bg bf fd zk fw = (
    f_XB_scaledSum_L5 bg bf fd zk fw (Int.toNat (8 - 0) + 1) 0 0
  ) := by rw [f_XB_scaledSum_q]; rfl
theorem f_XB_scaledSum_L (bg bf : Int) (fd : Int → Int) (zk : Int) (fw : Int → Int) (hbd : ∀ i, 0 ≤ fd i ∧ fd i ≤ 20) (hw0 : ∀ i, -1 ≤ fw i ∧ fw i ≤ 100000) : ∀ (n : Nat) (v k : Int), 0 ≤ k → k ≤ 8 → (-232792560) * k ≤ v ∧ v ≤ 23279256000000 * k → -1862340480 ≤ f_XB_scaledSum_L5 bg bf fd zk fw n v k ∧ f_XB_scaledSum_L5 bg bf fd zk fw n v k ≤ 186234048000000 := by
  intro n
  induction n with
  | zero => intro v k _ _ _; simp only [f_XB_scaledSum_L5_z] <;> omega
  | succ n ih =>
    intro v k h0 h1 h2
    rw [f_XB_scaledSum_L5_s]
    (repeat' split) <;> first | omega | exact ih _ _ (by omega) (by omega) (by omega) | (rename_i h; have := jterm_b (hw0 k).1 (hw0 k).2 h; exact ih _ _ (by omega) (by omega) (by omega))
theorem f_XB_scaledSum_b (bg : Int) (bf : Int) (fd : Int → Int) (zk : Int) (fw : Int → Int) (hbd : ∀ i, 0 ≤ fd i ∧ fd i ≤ 20) (hzk : 0 ≤ zk ∧ zk < 4) (hw0 : ∀ i, -1 ≤ fw i ∧ fw i ≤ 100000) : -1862340480 ≤ (f_XB_scaledSum bg bf fd zk fw) ∧ (f_XB_scaledSum bg bf fd zk fw) ≤ 186234048000000 := by rw [f_XB_scaledSum_s]; exact f_XB_scaledSum_L _ _ _ _ _ hbd hw0 _ _ _ (by omega) (by omega) (by omega)
set_option maxHeartbeats 4000000 in
set_option maxRecDepth 100000 in
theorem c_XB_scaledSum (l : Launch) (dC : Nat → ClassId) (dI : Nat → Nat → Nat) (cA : ClassId) (ba : Nat) (bt : Nat) (bp : Nat) (bl : Nat) (bh : Nat) (bq : Nat) (br : Nat) (bd : Nat) (bg : Int) (bf : Int) (fd : Int → Int) (zk : Int) (ra : Nat) (fw : Int → Int) (hbd : ∀ i, 0 ≤ fd i ∧ fd i ≤ 20) (hzk : 0 ≤ zk ∧ zk < 4) (hw0 : ∀ i, -1 ≤ fw i ∧ fw i ≤ 100000) : Met l yXB_scaledSum (Cond.code yXB_scaledSum cXB_scaledSum 7 (some .long) :: TBL) ({ frames := 1, cells := 0, slots := 0, locals := 22 } : Room) (va_Pc [.ref ba, .int (jI zk), .ref ra] (jB (dC, dI) [(cA, .int)] [(ba, .inr (0, [.ref bt, .ref bp, .ref bl, .ref bh, .ref bq, .ref br, .ref bd, .int (jI bg), .int (jI bf)])), (bd, .inl (cA, 32, .inl (jA fd))), (ra, .inl (cA, 8, .inl (jA fw)))])) (vp_Sl (fun r => r = jL (f_XB_scaledSum bg bf fd zk fw))) 0 0 (fun _ => False) := by
  refine jMet (cc := cXB_scaledSum) (maxL := 7) (ret := some .long) (by decide) rfl ?_
  intro p e s m args below meth c s₁ R Q hR hQ B hml hv
  obtain ⟨rfl, hP, hK, hN⟩ := hv
  have hx := B.exec
  have hb := B.bytes
  have hr := B.returns
  have hts := atoms_spec (ws := Cond.code yXB_scaledSum cXB_scaledSum 7 (some .long) :: TBL) B.pre
  have hown : s.vm.findClass RXB = some m.cls := findClass_of_methodNamed B.named
  have hlocks := B.notSynchronized
  have hP : va_P (dC, dI) vwCl [(ba, .inr (0, [.ref bt, .ref bp, .ref bl, .ref bh, .ref bq, .ref br, .ref bd, .int (jI bg), .int (jI bf)])), (bd, .inl (cA, 32, .inl (jA fd))), (ra, .inl (cA, 8, .inl (jA fw)))] s.heap := hP
  have hl := lv_entry ([.ref ba, .int (jI zk), .ref ra]) (n := 7) (Nat.le_of_ble_eq_true rfl)
  rw [lg_entry_eq]
  generalize (lg_sl ([.ref ba, .int (jI zk), .ref ra]) ++ List.replicate (7 - (lg_sl ([.ref ba, .int (jI zk), .ref ra])).length) Slot.unset).toArray = ls at hl ⊢
  have hl : lv_has ls 7 [(0, .ref ba), (1, .int (jI zk)), (2, .ref ra)] := hl
  refine ji_lconst (z := 0) hx hb dXB_scaledSum_0 rfl ?_
  refine lv_lstore_n (lv' := [(3, .long (jL 0)), (0, .ref ba), (1, .int (jI zk)), (2, .ref ra)]) hx hb dXB_scaledSum_1 rfl hl (by decide) rfl (fun ls hl => ?_)
  refine ji_iconst hx hb dXB_scaledSum_2 ?_
  refine lv_istore (lv' := [(5, .int (jI 0)), (3, .long (jL 0)), (0, .ref ba), (1, .int (jI zk)), (2, .ref ra)]) hx hb dXB_scaledSum_3 hl (by decide) rfl (fun ls hl => ?_)
  have loop5 : ∀ (n9 : Nat) (v : Int) (k : Int) , 8 - k < (n9 : Int) → f_XB_scaledSum_L5 bg bf fd zk fw n9 v k = f_XB_scaledSum bg bf fd zk fw → 0 ≤ k ∧ k ≤ 8 → (-232792560) * k ≤ v ∧ v ≤ 23279256000000 * k → ∀ ls : Array Slot, lv_has ls 7 [(5, .int (jI k)), (3, .long (jL v)), (0, .ref ba), (1, .int (jI zk)), (2, .ref ra)] → W p l e R s m ([.ref ba, .int (jI zk), .ref ra] : List Value).toArray below meth c s.heap [] 0 0 Q (F0 m 5 ls []) := by
    intro n9
    induction n9 with
    | zero =>
      intro v k hm hF hk hv
      exact absurd hm (by omega)
    | succ n9 ih5 =>
      intro v k hm hF hk hv ls hl
      refine lv_iload hx hb dXB_scaledSum_5 (lv_at hl 0 rfl) ?_
      refine ji_bipush hx hb dXB_scaledSum_7 (by decide) ?_
      refine ji_icmp_ge (tgt := 55) hx hb dXB_scaledSum_9 (by decide) (by omega) (by omega) (fun c9_ => ?_) (fun c9_ => ?_)
      · refine lv_lload_n hx hb dXB_scaledSum_55 rfl (lv_at hl 1 rfl) ?_
        subst hQ
        exact W.lret (v := jL v) hx hb hr (fun t ht hW => ⟨_, rfl, congrArg jL (Eq.trans (by rw [f_XB_scaledSum_L5_s]; rw [if_neg (Int.not_lt.mpr c9_)]; try rfl) hF), ht⟩) (fun _ h => nomatch h) dXB_scaledSum_56
      · refine lv_iload hx hb dXB_scaledSum_12 (lv_at hl 0 rfl) ?_
        refine lv_aload_n hx hb dXB_scaledSum_14 rfl (lv_at hl 4 rfl) ?_
        refine ji_alen (z := 8) hx hb hK hP 2 0 rfl rfl rfl dXB_scaledSum_15 ?_
        refine ji_icmp_ge (tgt := 55) hx hb dXB_scaledSum_16 (by decide) (by omega) (by omega) (fun c16_ => ?_) (fun c16_ => ?_)
        · refine lv_lload_n hx hb dXB_scaledSum_55 rfl (lv_at hl 1 rfl) ?_
          subst hQ
          exact W.lret (v := jL v) hx hb hr (fun t ht hW => ⟨_, rfl, congrArg jL (Eq.trans (by rw [f_XB_scaledSum_L5_s]; rw [if_pos c9_, if_neg (Int.not_lt.mpr c16_)]; try rfl) hF), ht⟩) (fun _ h => nomatch h) dXB_scaledSum_56
        · refine lv_aload_n hx hb dXB_scaledSum_19 rfl (lv_at hl 2 rfl) ?_
          refine lv_iload_n hx hb dXB_scaledSum_20 rfl (lv_at hl 3 rfl) ?_
          refine lv_iload hx hb dXB_scaledSum_21 (lv_at hl 0 rfl) ?_
          refine jrVi (rest := []) ⟨hx, hb, hml, hown, hts⟩ (c_XB_divisorOf l dC dI cA ba bt bp bl bh bq br bd bg bf fd zk k (by first | assumption | omega) (by first | assumption | omega) (by first | assumption | omega)) (cwV 2 hts (jG_V tw_493 tw_191 tw_192 tw_5 tw_193) rfl rfl rfl (by decide +kernel) (by rw [hR]; exact ⟨Nat.le_of_ble_eq_true rfl, Nat.le_of_ble_eq_true rfl⟩)) hK hP hN [0, 1] rfl 0 0 rfl rfl rfl rfl hl.1 rfl (Nat.le_of_ble_eq_true rfl) dXB_scaledSum_23 (by rw [hR]; exact ⟨Nat.le_of_ble_eq_true rfl, Nat.le_of_ble_eq_true rfl⟩) ?_
          have f := f_XB_divisorOf_b bg bf fd zk k (by first | assumption | omega) (by first | assumption | omega) (by first | assumption | omega)
          refine lv_istore (lv' := [(6, .int (jI (f_XB_divisorOf bg bf fd zk k))), (5, .int (jI k)), (3, .long (jL v)), (0, .ref ba), (1, .int (jI zk)), (2, .ref ra)]) hx hb dXB_scaledSum_26 hl (by decide) rfl (fun ls hl => ?_)
          refine lv_iload hx hb dXB_scaledSum_28 (lv_at hl 0 rfl) ?_
          refine ji_if_le (tgt := 49) hx hb dXB_scaledSum_30 (by decide) (by omega) (fun c30_ => ?_) (fun c30_ => ?_)
          · refine ji_iinc (k := 1) (lv' := [(5, .int (jI (k + 1))), (6, .int (jI (f_XB_divisorOf bg bf fd zk k))), (3, .long (jL v)), (0, .ref ba), (1, .int (jI zk)), (2, .ref ra)]) hx hb dXB_scaledSum_49 hl rfl (by decide) rfl (fun ls hl => ?_)
            refine lv_goto (tgt := 5) hx hb dXB_scaledSum_52 (by decide) ?_
            exact ih5 v (k + 1) (by omega) (Eq.trans (by rw [f_XB_scaledSum_L5_s]; rw [if_pos c9_, if_pos c16_, if_neg (Int.not_lt.mpr c30_)]; try rfl) hF) (by first | assumption | omega) (by first | omega | (have := hw0 k; have := jterm_b (hw0 k).1 (hw0 k).2 (show (0 : Int) < f_XB_divisorOf bg bf fd zk k by omega); omega)) ls (lv_sub hl [0, 2, 3, 4, 5] rfl)
          · refine lv_lload_n hx hb dXB_scaledSum_33 rfl (lv_at hl 2 rfl) ?_
            refine lv_aload_n hx hb dXB_scaledSum_34 rfl (lv_at hl 5 rfl) ?_
            refine lv_iload hx hb dXB_scaledSum_35 (lv_at hl 1 rfl) ?_
            refine ji_iald hx hb hK hP 2 0 rfl rfl ⟨by omega, by omega⟩ (by decide) dXB_scaledSum_37 ?_
            have rb := hw0 k
            refine ji_i2l hx hb dXB_scaledSum_38 (by omega) ?_
            refine lv_ldc2 hx hb hown (hts _ (jmem tw_494)) dXB_scaledSum_39 ?_
            refine ji_rel (y := 232792560) (by decide) ?_
            refine lv_iload hx hb dXB_scaledSum_42 (lv_at hl 0 rfl) ?_
            refine ji_i2l hx hb dXB_scaledSum_44 (by omega) ?_
            refine ji_ldiv hx hb dXB_scaledSum_45 (by omega) (by omega) (by omega) (by omega) ?_
            refine ji_lmul hx hb dXB_scaledSum_46 ?_
            refine ji_ladd hx hb dXB_scaledSum_47 ?_
            refine lv_lstore_n (lv' := [(3, .long (jL (v + ((fw k) * (Int.tdiv 232792560 (f_XB_divisorOf bg bf fd zk k)))))), (6, .int (jI (f_XB_divisorOf bg bf fd zk k))), (5, .int (jI k)), (0, .ref ba), (1, .int (jI zk)), (2, .ref ra)]) hx hb dXB_scaledSum_48 rfl hl (by decide) rfl (fun ls hl => ?_)
            refine ji_iinc (k := 2) (lv' := [(5, .int (jI (k + 1))), (3, .long (jL (v + ((fw k) * (Int.tdiv 232792560 (f_XB_divisorOf bg bf fd zk k)))))), (6, .int (jI (f_XB_divisorOf bg bf fd zk k))), (0, .ref ba), (1, .int (jI zk)), (2, .ref ra)]) hx hb dXB_scaledSum_49 hl rfl (by decide) rfl (fun ls hl => ?_)
            refine lv_goto (tgt := 5) hx hb dXB_scaledSum_52 (by decide) ?_
            exact ih5 (v + ((fw k) * (Int.tdiv 232792560 (f_XB_divisorOf bg bf fd zk k)))) (k + 1) (by omega) (Eq.trans (by rw [f_XB_scaledSum_L5_s]; rw [if_pos c9_, if_pos c16_, if_pos c30_]; try rfl) hF) (by first | assumption | omega) (by first | omega | (have := hw0 k; have := jterm_b (hw0 k).1 (hw0 k).2 (show (0 : Int) < f_XB_divisorOf bg bf fd zk k by omega); omega)) ls (lv_sub hl [0, 1, 3, 4, 5] rfl)
  exact loop5 (Int.toNat (8 - 0) + 1) 0 0 (by omega) (Eq.trans (by rw [f_XB_scaledSum_s]; try rfl) rfl) (by first | assumption | omega) (by first | assumption | omega) ls (lv_sub hl [0, 1, 2, 3, 4] rfl)
noncomputable def g_XB_copyEnds_L3 (bg : Int) (bf : Int) (fp : Int → Int) (fl : Int → Int) (fh : Int → Int) (zg : Int) (zn : Int) (fw : Int → Int) : Nat → Int → (Int → Int) → (Int → Int)
  | 0, _, _ => fun _ => 0
  | n9 + 1, k, fa =>
    if k < 8 then
      if k < 8 then
        g_XB_copyEnds_L3 bg bf fp fl fh zg zn fw n9 (k + 1) (jset fa k (f_XB_endOf bg bf fp fl fh zg k zn))
      else
        fa
    else
      fa
noncomputable def f_XB_copyEnds_L3 : Int → Int → (Int → Int) → (Int → Int) → (Int → Int) → Int → Int → (Int → Int) → Nat → Int → (Int → Int) → (Int → Int) := jopq g_XB_copyEnds_L3
theorem f_XB_copyEnds_L3_q : f_XB_copyEnds_L3 = g_XB_copyEnds_L3 := jopq_eq _
theorem f_XB_copyEnds_L3_s (bg : Int) (bf : Int) (fp : Int → Int) (fl : Int → Int) (fh : Int → Int) (zg : Int) (zn : Int) (fw : Int → Int) (n9 : Nat) (k : Int) (fa : Int → Int) : f_XB_copyEnds_L3 bg bf fp fl fh zg zn fw (n9 + 1) k fa = (
    if k < 8 then
      if k < 8 then
        f_XB_copyEnds_L3 bg bf fp fl fh zg zn fw n9 (k + 1) (jset fa k (f_XB_endOf bg bf fp fl fh zg k zn))
      else
        fa
    else
      fa
  ) := by rw [f_XB_copyEnds_L3_q]; rfl
theorem f_XB_copyEnds_L3_z (bg : Int) (bf : Int) (fp : Int → Int) (fl : Int → Int) (fh : Int → Int) (zg : Int) (zn : Int) (fw : Int → Int) (k : Int) (fa : Int → Int) : f_XB_copyEnds_L3 bg bf fp fl fh zg zn fw 0 k fa = fun _ => 0 := by rw [f_XB_copyEnds_L3_q]; rfl
noncomputable def g_XB_copyEnds (bg : Int) (bf : Int) (fp : Int → Int) (fl : Int → Int) (fh : Int → Int) (zg : Int) (zn : Int) (fw : Int → Int) : (Int → Int) :=
  f_XB_copyEnds_L3 bg bf fp fl fh zg zn fw (Int.toNat (8 - 0) + 1) 0 fw
noncomputable def f_XB_copyEnds : Int → Int → (Int → Int) → (Int → Int) → (Int → Int) → Int → Int → (Int → Int) → (Int → Int) := jopq g_XB_copyEnds
theorem f_XB_copyEnds_q : f_XB_copyEnds = g_XB_copyEnds := jopq_eq _
theorem f_XB_copyEnds_s (bg : Int) (bf : Int) (fp : Int → Int) (fl : Int → Int) (fh : Int → Int) (zg : Int) (zn : Int) (fw : Int → Int) : f_XB_copyEnds bg bf fp fl fh zg zn fw = (
    f_XB_copyEnds_L3 bg bf fp fl fh zg zn fw (Int.toNat (8 - 0) + 1) 0 fw
  ) := by rw [f_XB_copyEnds_q]; rfl
theorem f_XB_copyEnds_L (bg bf : Int) (fp fl fh : Int → Int) (zg zn : Int) (fw : Int → Int) (hbp : ∀ i, 0 ≤ fp i ∧ fp i ≤ 30) (hbl : ∀ i, 0 ≤ fl i ∧ fl i ≤ 100000) (hbh : ∀ i, -1 ≤ fh i ∧ fh i ≤ 100000) (hzg : 0 ≤ zg ∧ zg ≤ 30) (hzn : 0 ≤ zn ∧ zn < 2) : ∀ (n : Nat) (k : Int) (fa : Int → Int), 0 ≤ k → (∀ i, -1 ≤ fa i ∧ fa i ≤ 100000) → ∀ i, -1 ≤ f_XB_copyEnds_L3 bg bf fp fl fh zg zn fw n k fa i ∧ f_XB_copyEnds_L3 bg bf fp fl fh zg zn fw n k fa i ≤ 100000 := by
  intro n
  induction n with
  | zero => intro k fa _ _ i; simp only [f_XB_copyEnds_L3_z] <;> omega
  | succ n ih =>
    intro k fa h0 h
    rw [f_XB_copyEnds_L3_s]
    split
    · refine ih _ _ (by omega) (fun i => ?_)
      unfold jset
      split
      · exact f_XB_endOf_b bg bf fp fl fh zg k zn hbp hbl hbh hzg (by omega) hzn
      · exact h i
    · exact h
theorem f_XB_copyEnds_b (bg : Int) (bf : Int) (fp : Int → Int) (fl : Int → Int) (fh : Int → Int) (zg : Int) (zn : Int) (fw : Int → Int) (hbp : ∀ i, 0 ≤ fp i ∧ fp i ≤ 30) (hbl : ∀ i, 0 ≤ fl i ∧ fl i ≤ 100000) (hbh : ∀ i, -1 ≤ fh i ∧ fh i ≤ 100000) (hzg : 0 ≤ zg ∧ zg ≤ 30) (hzn : 0 ≤ zn ∧ zn < 2) (hw0 : ∀ i, -1 ≤ fw i ∧ fw i ≤ 100000) : ∀ i, -1 ≤ (f_XB_copyEnds bg bf fp fl fh zg zn fw) i ∧ (f_XB_copyEnds bg bf fp fl fh zg zn fw) i ≤ 100000 := by rw [f_XB_copyEnds_s]; exact f_XB_copyEnds_L _ _ _ _ _ _ _ _ hbp hbl hbh hzg hzn _ _ _ (by omega) hw0
set_option maxHeartbeats 4000000 in
set_option maxRecDepth 100000 in
theorem c_XB_copyEnds (l : Launch) (dC : Nat → ClassId) (dI : Nat → Nat → Nat) (cA : ClassId) (sz : Nat) (ba : Nat) (bt : Nat) (bp : Nat) (bl : Nat) (bh : Nat) (bq : Nat) (br : Nat) (bd : Nat) (bg : Int) (bf : Int) (fp : Int → Int) (fl : Int → Int) (fh : Int → Int) (zg : Int) (zn : Int) (ra : Nat) (fw : Int → Int) (hbp : ∀ i, 0 ≤ fp i ∧ fp i ≤ 30) (hbl : ∀ i, 0 ≤ fl i ∧ fl i ≤ 100000) (hbh : ∀ i, -1 ≤ fh i ∧ fh i ≤ 100000) (hzg : 0 ≤ zg ∧ zg ≤ 30) (hzn : 0 ≤ zn ∧ zn < 2) (hw0 : ∀ i, -1 ≤ fw i ∧ fw i ≤ 100000) : Met l yXB_copyEnds (Cond.code yXB_copyEnds cXB_copyEnds 5 none :: TBL) ({ frames := 2, cells := 0, slots := 0, locals := 47 } : Room) (va_Pc [.ref ba, .int (jI zg), .int (jI zn), .ref ra] (jBw (dC, dI) [(cA, .int)] [(ba, .inr (0, [.ref bt, .ref bp, .ref bl, .ref bh, .ref bq, .ref br, .ref bd, .int (jI bg), .int (jI bf)])), (bp, .inl (cA, 31, .inl (jA fp))), (bl, .inl (cA, 248, .inl (jA fl))), (bh, .inl (cA, 248, .inl (jA fh))), (ra, .inl (cA, 8, .inl (jA fw)))] sz)) (va_Qv (fun (u : (Int → Int)) => u = f_XB_copyEnds bg bf fp fl fh zg zn fw) (fun u t => jE (dC, dI) [(cA, .int)] [(ba, .inr (0, [.ref bt, .ref bp, .ref bl, .ref bh, .ref bq, .ref br, .ref bd, .int (jI bg), .int (jI bf)])), (bp, .inl (cA, 31, .inl (jA fp))), (bl, .inl (cA, 248, .inl (jA fl))), (bh, .inl (cA, 248, .inl (jA fh))), (ra, .inl (cA, 8, .inl (jA fw)))] sz [(ba, .inr (0, [.ref bt, .ref bp, .ref bl, .ref bh, .ref bq, .ref br, .ref bd, .int (jI bg), .int (jI bf)])), (bp, .inl (cA, 31, .inl (jA fp))), (bl, .inl (cA, 248, .inl (jA fl))), (bh, .inl (cA, 248, .inl (jA fh))), (ra, .inl (cA, 8, .inl (jA u)))] t) (va_A [(ba, .inr (0, [.ref bt, .ref bp, .ref bl, .ref bh, .ref bq, .ref br, .ref bd, .int (jI bg), .int (jI bf)])), (bp, .inl (cA, 31, .inl (jA fp))), (bl, .inl (cA, 248, .inl (jA fl))), (bh, .inl (cA, 248, .inl (jA fh))), (ra, .inl (cA, 8, .inl (jA fw)))] sz)) 0 0 (va_A [(ba, .inr (0, [.ref bt, .ref bp, .ref bl, .ref bh, .ref bq, .ref br, .ref bd, .int (jI bg), .int (jI bf)])), (bp, .inl (cA, 31, .inl (jA fp))), (bl, .inl (cA, 248, .inl (jA fl))), (bh, .inl (cA, 248, .inl (jA fh))), (ra, .inl (cA, 8, .inl (jA fw)))] sz) := by
  refine jMet (cc := cXB_copyEnds) (maxL := 5) (ret := none) (by decide) rfl ?_
  intro p e s m args below meth c s₁ R Q hR hQ B hml hv
  obtain ⟨rfl, hsz, hP, hK, hD0, hN⟩ := hv
  have hx := B.exec
  have hb := B.bytes
  have hr := B.returns
  have hts := atoms_spec (ws := Cond.code yXB_copyEnds cXB_copyEnds 5 none :: TBL) B.pre
  have hown : s.vm.findClass RXB = some m.cls := findClass_of_methodNamed B.named
  have hlocks := B.notSynchronized
  subst hsz
  obtain ⟨A, hAe⟩ : ∃ A, A = va_A [(ba, .inr (0, [.ref bt, .ref bp, .ref bl, .ref bh, .ref bq, .ref br, .ref bd, .int (jI bg), .int (jI bf)])), (bp, .inl (cA, 31, .inl (jA fp))), (bl, .inl (cA, 248, .inl (jA fl))), (bh, .inl (cA, 248, .inl (jA fh))), (ra, .inl (cA, 8, .inl (jA fw)))] s.heap.size := ⟨_, rfl⟩
  have hD : va_D A [(ba, .inr (0, [.ref bt, .ref bp, .ref bl, .ref bh, .ref bq, .ref br, .ref bd, .int (jI bg), .int (jI bf)])), (bp, .inl (cA, 31, .inl (jA fp))), (bl, .inl (cA, 248, .inl (jA fl))), (bh, .inl (cA, 248, .inl (jA fh))), (ra, .inl (cA, 8, .inl (jA fw)))] := by rw [hAe]; exact hD0.self
  have hA : ∀ q : Nat, s.heap.size ≤ q → A q := fun q h => by rw [hAe]; exact Or.inr h
  have hS : va_S A s.heap s.heap [] := va_S.rf
  have hP : va_P (dC, dI) vwCl [(ba, .inr (0, [.ref bt, .ref bp, .ref bl, .ref bh, .ref bq, .ref br, .ref bd, .int (jI bg), .int (jI bf)])), (bp, .inl (cA, 31, .inl (jA fp))), (bl, .inl (cA, 248, .inl (jA fl))), (bh, .inl (cA, 248, .inl (jA fh))), (ra, .inl (cA, 8, .inl (jA fw)))] s.heap := hP
  have hl := lv_entry ([.ref ba, .int (jI zg), .int (jI zn), .ref ra]) (n := 5) (Nat.le_of_ble_eq_true rfl)
  rw [lg_entry_eq]
  generalize (lg_sl ([.ref ba, .int (jI zg), .int (jI zn), .ref ra]) ++ List.replicate (5 - (lg_sl ([.ref ba, .int (jI zg), .int (jI zn), .ref ra])).length) Slot.unset).toArray = ls at hl ⊢
  have hl : lv_has ls 5 [(0, .ref ba), (1, .int (jI zg)), (2, .int (jI zn)), (3, .ref ra)] := hl
  refine ji_iconst hx hb dXB_copyEnds_0 ?_
  refine lv_istore (lv' := [(4, .int (jI 0)), (0, .ref ba), (1, .int (jI zg)), (2, .int (jI zn)), (3, .ref ra)]) hx hb dXB_copyEnds_1 hl (by decide) rfl (fun ls hl => ?_)
  have loop3 : ∀ (n9 : Nat) (k : Int) (fa : Int → Int) , 8 - k < (n9 : Int) → f_XB_copyEnds_L3 bg bf fp fl fh zg zn fw n9 k fa = f_XB_copyEnds bg bf fp fl fh zg zn fw → 0 ≤ k ∧ k ≤ 8 → ∀ (H : Heap) (locs : List Loc), va_P (dC, dI) vwCl [(ba, .inr (0, [.ref bt, .ref bp, .ref bl, .ref bh, .ref bq, .ref br, .ref bd, .int (jI bg), .int (jI bf)])), (bp, .inl (cA, 31, .inl (jA fp))), (bl, .inl (cA, 248, .inl (jA fl))), (bh, .inl (cA, 248, .inl (jA fh))), (ra, .inl (cA, 8, .inl (jA fa)))] H → va_D A [(ba, .inr (0, [.ref bt, .ref bp, .ref bl, .ref bh, .ref bq, .ref br, .ref bd, .int (jI bg), .int (jI bf)])), (bp, .inl (cA, 31, .inl (jA fp))), (bl, .inl (cA, 248, .inl (jA fl))), (bh, .inl (cA, 248, .inl (jA fh))), (ra, .inl (cA, 8, .inl (jA fa)))] → va_S A s.heap H locs → ∀ ls : Array Slot, lv_has ls 5 [(4, .int (jI k)), (0, .ref ba), (1, .int (jI zg)), (2, .int (jI zn)), (3, .ref ra)] → W p l e R s m ([.ref ba, .int (jI zg), .int (jI zn), .ref ra] : List Value).toArray below meth c H locs 0 0 Q (F0 m 3 ls []) := by
    intro n9
    induction n9 with
    | zero =>
      intro k fa hm hF hk
      exact absurd hm (by omega)
    | succ n9 ih3 =>
      intro k fa hm hF hk H locs hP hD hS ls hl
      refine lv_iload hx hb dXB_copyEnds_3 (lv_at hl 0 rfl) ?_
      refine ji_bipush hx hb dXB_copyEnds_5 (by decide) ?_
      refine ji_icmp_ge (tgt := 35) hx hb dXB_copyEnds_7 (by decide) (by omega) (by omega) (fun c7_ => ?_) (fun c7_ => ?_)
      · have hP9 := hP.sub (ws' := [(ba, .inr (0, [.ref bt, .ref bp, .ref bl, .ref bh, .ref bq, .ref br, .ref bd, .int (jI bg), .int (jI bf)])), (bp, .inl (cA, 31, .inl (jA fp))), (bl, .inl (cA, 248, .inl (jA fl))), (bh, .inl (cA, 248, .inl (jA fh))), (ra, .inl (cA, 8, .inl (jA fa)))]) [0, 1, 2, 3, 4] rfl
        have hD9 := hD.sub (ws' := [(ba, .inr (0, [.ref bt, .ref bp, .ref bl, .ref bh, .ref bq, .ref br, .ref bd, .int (jI bg), .int (jI bf)])), (bp, .inl (cA, 31, .inl (jA fp))), (bl, .inl (cA, 248, .inl (jA fl))), (bh, .inl (cA, 248, .inl (jA fh))), (ra, .inl (cA, 8, .inl (jA fa)))]) [0, 1, 2, 3, 4] (by decide) rfl
        subst hAe
        subst hQ
        exact W.vret hx hb hr (fun t ht hW => ⟨⟨fa, rfl, Eq.trans (by rw [f_XB_copyEnds_L3_s]; rw [if_neg (Int.not_lt.mpr c7_)]; try rfl) hF, ⟨by rw [ht]; exact hP9, va_K.moved hW.alike hK, hD9⟩⟩, hS.F ht⟩) hS.2.2 dXB_copyEnds_35
      · refine lv_iload hx hb dXB_copyEnds_10 (lv_at hl 0 rfl) ?_
        refine lv_aload_n hx hb dXB_copyEnds_12 rfl (lv_at hl 4 rfl) ?_
        refine ji_alen (z := 8) hx hb hK hP 4 0 rfl rfl rfl dXB_copyEnds_13 ?_
        refine ji_icmp_ge (tgt := 35) hx hb dXB_copyEnds_14 (by decide) (by omega) (by omega) (fun c14_ => ?_) (fun c14_ => ?_)
        · have hP9 := hP.sub (ws' := [(ba, .inr (0, [.ref bt, .ref bp, .ref bl, .ref bh, .ref bq, .ref br, .ref bd, .int (jI bg), .int (jI bf)])), (bp, .inl (cA, 31, .inl (jA fp))), (bl, .inl (cA, 248, .inl (jA fl))), (bh, .inl (cA, 248, .inl (jA fh))), (ra, .inl (cA, 8, .inl (jA fa)))]) [0, 1, 2, 3, 4] rfl
          have hD9 := hD.sub (ws' := [(ba, .inr (0, [.ref bt, .ref bp, .ref bl, .ref bh, .ref bq, .ref br, .ref bd, .int (jI bg), .int (jI bf)])), (bp, .inl (cA, 31, .inl (jA fp))), (bl, .inl (cA, 248, .inl (jA fl))), (bh, .inl (cA, 248, .inl (jA fh))), (ra, .inl (cA, 8, .inl (jA fa)))]) [0, 1, 2, 3, 4] (by decide) rfl
          subst hAe
          subst hQ
          exact W.vret hx hb hr (fun t ht hW => ⟨⟨fa, rfl, Eq.trans (by rw [f_XB_copyEnds_L3_s]; rw [if_pos c7_, if_neg (Int.not_lt.mpr c14_)]; try rfl) hF, ⟨by rw [ht]; exact hP9, va_K.moved hW.alike hK, hD9⟩⟩, hS.F ht⟩) hS.2.2 dXB_copyEnds_35
        · refine lv_aload_n hx hb dXB_copyEnds_17 rfl (lv_at hl 4 rfl) ?_
          refine lv_iload hx hb dXB_copyEnds_18 (lv_at hl 0 rfl) ?_
          refine lv_aload_n hx hb dXB_copyEnds_20 rfl (lv_at hl 1 rfl) ?_
          refine lv_iload_n hx hb dXB_copyEnds_21 rfl (lv_at hl 2 rfl) ?_
          refine lv_iload hx hb dXB_copyEnds_22 (lv_at hl 0 rfl) ?_
          refine lv_iload_n hx hb dXB_copyEnds_24 rfl (lv_at hl 3 rfl) ?_
          refine jrVi (rest := [.int (jI k), .ref ra]) ⟨hx, hb, hml, hown, hts⟩ (c_XB_endOf l dC dI cA ba bt bp bl bh bq br bd bg bf fp fl fh zg k zn (by first | assumption | omega) (by first | assumption | omega) (by first | assumption | omega) (by first | assumption | omega) (by first | assumption | omega) (by first | assumption | omega)) (cwV 3 hts (jG_V tw_488 tw_438 tw_439 tw_5 tw_440) rfl rfl rfl (by decide +kernel) (by rw [hR]; exact ⟨Nat.le_of_ble_eq_true rfl, Nat.le_of_ble_eq_true rfl⟩)) hK hP hN [0, 1, 2, 3] rfl 0 0 rfl rfl rfl rfl hl.1 rfl (Nat.le_of_ble_eq_true rfl) dXB_copyEnds_25 (by rw [hR]; exact ⟨Nat.le_of_ble_eq_true rfl, Nat.le_of_ble_eq_true rfl⟩) ?_
          have f := f_XB_endOf_b bg bf fp fl fh zg k zn (by first | assumption | omega) (by first | assumption | omega) (by first | assumption | omega) (by first | assumption | omega) (by first | assumption | omega) (by first | assumption | omega)
          refine ji_iast hx hb hK hP hD hS 4 0 rfl rfl ⟨by omega, by omega⟩ (by decide) dXB_copyEnds_28 (fun H locs hP hD hS => ?_)
          have hP : va_P (dC, dI) vwCl [(ba, .inr (0, [.ref bt, .ref bp, .ref bl, .ref bh, .ref bq, .ref br, .ref bd, .int (jI bg), .int (jI bf)])), (bp, .inl (cA, 31, .inl (jA fp))), (bl, .inl (cA, 248, .inl (jA fl))), (bh, .inl (cA, 248, .inl (jA fh))), (ra, .inl (cA, 8, .inl (jA (jset fa k (f_XB_endOf bg bf fp fl fh zg k zn)))))] H := hP
          have hD : va_D A [(ba, .inr (0, [.ref bt, .ref bp, .ref bl, .ref bh, .ref bq, .ref br, .ref bd, .int (jI bg), .int (jI bf)])), (bp, .inl (cA, 31, .inl (jA fp))), (bl, .inl (cA, 248, .inl (jA fl))), (bh, .inl (cA, 248, .inl (jA fh))), (ra, .inl (cA, 8, .inl (jA (jset fa k (f_XB_endOf bg bf fp fl fh zg k zn)))))] := hD
          refine ji_iinc (k := 0) (lv' := [(4, .int (jI (k + 1))), (0, .ref ba), (1, .int (jI zg)), (2, .int (jI zn)), (3, .ref ra)]) hx hb dXB_copyEnds_29 hl rfl (by decide) rfl (fun ls hl => ?_)
          refine lv_goto (tgt := 3) hx hb dXB_copyEnds_32 (by decide) ?_
          exact ih3 (k + 1) (jset fa k (f_XB_endOf bg bf fp fl fh zg k zn)) (by omega) (Eq.trans (by rw [f_XB_copyEnds_L3_s]; rw [if_pos c7_, if_pos c14_]; try rfl) hF) (by first | assumption | omega) _ _ hP hD hS ls (lv_sub hl [0, 1, 2, 3, 4] rfl)
  exact loop3 (Int.toNat (8 - 0) + 1) 0 fw (by omega) (Eq.trans (by rw [f_XB_copyEnds_s]; try rfl) rfl) (by first | assumption | omega) _ _ hP hD hS ls (lv_sub hl [0, 1, 2, 3, 4] rfl)
noncomputable def g_XB_firstKindAbove_L2 (bg : Int) (bf : Int) (fp : Int → Int) (fq : Int → Int) (fd : Int → Int) (zg : Int) (fw : Int → Int) : Nat → Int → Int
  | 0, _ => 0
  | n9 + 1, k =>
    if k < 4 then
      if (f_XB_hasFormula bg bf k) = 0 then
        g_XB_firstKindAbove_L2 bg bf fp fq fd zg fw n9 (k + 1)
      else
        if (f_XB_limitOf bg bf fp fq zg k) = (-1) then
          g_XB_firstKindAbove_L2 bg bf fp fq fd zg fw n9 (k + 1)
        else
          if ((f_XB_limitOf bg bf fp fq zg k) * 232792560) < (f_XB_scaledSum bg bf fd k fw) then
            k
          else
            g_XB_firstKindAbove_L2 bg bf fp fq fd zg fw n9 (k + 1)
    else
      -1
noncomputable def f_XB_firstKindAbove_L2 : Int → Int → (Int → Int) → (Int → Int) → (Int → Int) → Int → (Int → Int) → Nat → Int → Int := jopq g_XB_firstKindAbove_L2
theorem f_XB_firstKindAbove_L2_q : f_XB_firstKindAbove_L2 = g_XB_firstKindAbove_L2 := jopq_eq _
theorem f_XB_firstKindAbove_L2_s (bg : Int) (bf : Int) (fp : Int → Int) (fq : Int → Int) (fd : Int → Int) (zg : Int) (fw : Int → Int) (n9 : Nat) (k : Int) : f_XB_firstKindAbove_L2 bg bf fp fq fd zg fw (n9 + 1) k = (
    if k < 4 then
      if (f_XB_hasFormula bg bf k) = 0 then
        f_XB_firstKindAbove_L2 bg bf fp fq fd zg fw n9 (k + 1)
      else
        if (f_XB_limitOf bg bf fp fq zg k) = (-1) then
          f_XB_firstKindAbove_L2 bg bf fp fq fd zg fw n9 (k + 1)
        else
          if ((f_XB_limitOf bg bf fp fq zg k) * 232792560) < (f_XB_scaledSum bg bf fd k fw) then
            k
          else
            f_XB_firstKindAbove_L2 bg bf fp fq fd zg fw n9 (k + 1)
    else
      -1
  ) := by rw [f_XB_firstKindAbove_L2_q]; rfl
theorem f_XB_firstKindAbove_L2_z (bg : Int) (bf : Int) (fp : Int → Int) (fq : Int → Int) (fd : Int → Int) (zg : Int) (fw : Int → Int) (k : Int) : f_XB_firstKindAbove_L2 bg bf fp fq fd zg fw 0 k = 0 := by rw [f_XB_firstKindAbove_L2_q]; rfl
noncomputable def g_XB_firstKindAbove (bg : Int) (bf : Int) (fp : Int → Int) (fq : Int → Int) (fd : Int → Int) (zg : Int) (fw : Int → Int) : Int :=
  f_XB_firstKindAbove_L2 bg bf fp fq fd zg fw (Int.toNat (4 - 0) + 1) 0
noncomputable def f_XB_firstKindAbove : Int → Int → (Int → Int) → (Int → Int) → (Int → Int) → Int → (Int → Int) → Int := jopq g_XB_firstKindAbove
theorem f_XB_firstKindAbove_q : f_XB_firstKindAbove = g_XB_firstKindAbove := jopq_eq _
theorem f_XB_firstKindAbove_s (bg : Int) (bf : Int) (fp : Int → Int) (fq : Int → Int) (fd : Int → Int) (zg : Int) (fw : Int → Int) : f_XB_firstKindAbove bg bf fp fq fd zg fw = (
    f_XB_firstKindAbove_L2 bg bf fp fq fd zg fw (Int.toNat (4 - 0) + 1) 0
  ) := by rw [f_XB_firstKindAbove_q]; rfl
theorem f_XB_firstKindAbove_L (bg bf : Int) (fp fq fd : Int → Int) (zg : Int) (fw : Int → Int) : ∀ (n : Nat) (k : Int), 0 ≤ k → -1 ≤ f_XB_firstKindAbove_L2 bg bf fp fq fd zg fw n k ∧ f_XB_firstKindAbove_L2 bg bf fp fq fd zg fw n k < 4 := by
  intro n
  induction n with
  | zero => intro k _; simp only [f_XB_firstKindAbove_L2_z] <;> omega
  | succ n ih =>
    intro k h
    rw [f_XB_firstKindAbove_L2_s]
    (repeat' split) <;> first | omega | exact ih _ (by omega)
theorem f_XB_firstKindAbove_b (bg : Int) (bf : Int) (fp : Int → Int) (fq : Int → Int) (fd : Int → Int) (zg : Int) (fw : Int → Int) (hbp : ∀ i, 0 ≤ fp i ∧ fp i ≤ 30) (hbq : ∀ i, -1 ≤ fq i ∧ fq i ≤ 999999) (hbd : ∀ i, 0 ≤ fd i ∧ fd i ≤ 20) (hbf : 0 ≤ bf ∧ bf < 2147483648) (hzg : 0 ≤ zg ∧ zg ≤ 30) (hw0 : ∀ i, -1 ≤ fw i ∧ fw i ≤ 100000) : -1 ≤ (f_XB_firstKindAbove bg bf fp fq fd zg fw) ∧ (f_XB_firstKindAbove bg bf fp fq fd zg fw) < 4 := by rw [f_XB_firstKindAbove_s]; exact f_XB_firstKindAbove_L _ _ _ _ _ _ _ _ _ (by omega)
set_option maxHeartbeats 4000000 in
set_option maxRecDepth 100000 in
theorem c_XB_firstKindAbove (l : Launch) (dC : Nat → ClassId) (dI : Nat → Nat → Nat) (cA : ClassId) (ba : Nat) (bt : Nat) (bp : Nat) (bl : Nat) (bh : Nat) (bq : Nat) (br : Nat) (bd : Nat) (bg : Int) (bf : Int) (fp : Int → Int) (fq : Int → Int) (fd : Int → Int) (zg : Int) (ra : Nat) (fw : Int → Int) (hbp : ∀ i, 0 ≤ fp i ∧ fp i ≤ 30) (hbq : ∀ i, -1 ≤ fq i ∧ fq i ≤ 999999) (hbd : ∀ i, 0 ≤ fd i ∧ fd i ≤ 20) (hbf : 0 ≤ bf ∧ bf < 2147483648) (hzg : 0 ≤ zg ∧ zg ≤ 30) (hw0 : ∀ i, -1 ≤ fw i ∧ fw i ≤ 100000) : Met l yXB_firstKindAbove (Cond.code yXB_firstKindAbove cXB_firstKindAbove 5 (some .int) :: TBL) ({ frames := 2, cells := 0, slots := 0, locals := 48 } : Room) (va_Pc [.ref ba, .int (jI zg), .ref ra] (jB (dC, dI) [(cA, .int)] [(ba, .inr (0, [.ref bt, .ref bp, .ref bl, .ref bh, .ref bq, .ref br, .ref bd, .int (jI bg), .int (jI bf)])), (bp, .inl (cA, 31, .inl (jA fp))), (bq, .inl (cA, 124, .inl (jA fq))), (bd, .inl (cA, 32, .inl (jA fd))), (ra, .inl (cA, 8, .inl (jA fw)))])) (vp_Si (fun r => r = jI (f_XB_firstKindAbove bg bf fp fq fd zg fw))) 0 0 (fun _ => False) := by
  refine jMet (cc := cXB_firstKindAbove) (maxL := 5) (ret := some .int) (by decide) rfl ?_
  intro p e s m args below meth c s₁ R Q hR hQ B hml hv
  obtain ⟨rfl, hP, hK, hN⟩ := hv
  have hx := B.exec
  have hb := B.bytes
  have hr := B.returns
  have hts := atoms_spec (ws := Cond.code yXB_firstKindAbove cXB_firstKindAbove 5 (some .int) :: TBL) B.pre
  have hown : s.vm.findClass RXB = some m.cls := findClass_of_methodNamed B.named
  have hlocks := B.notSynchronized
  have hP : va_P (dC, dI) vwCl [(ba, .inr (0, [.ref bt, .ref bp, .ref bl, .ref bh, .ref bq, .ref br, .ref bd, .int (jI bg), .int (jI bf)])), (bp, .inl (cA, 31, .inl (jA fp))), (bq, .inl (cA, 124, .inl (jA fq))), (bd, .inl (cA, 32, .inl (jA fd))), (ra, .inl (cA, 8, .inl (jA fw)))] s.heap := hP
  have hl := lv_entry ([.ref ba, .int (jI zg), .ref ra]) (n := 5) (Nat.le_of_ble_eq_true rfl)
  rw [lg_entry_eq]
  generalize (lg_sl ([.ref ba, .int (jI zg), .ref ra]) ++ List.replicate (5 - (lg_sl ([.ref ba, .int (jI zg), .ref ra])).length) Slot.unset).toArray = ls at hl ⊢
  have hl : lv_has ls 5 [(0, .ref ba), (1, .int (jI zg)), (2, .ref ra)] := hl
  refine ji_iconst hx hb dXB_firstKindAbove_0 ?_
  refine lv_istore_n (lv' := [(3, .int (jI 0)), (0, .ref ba), (1, .int (jI zg)), (2, .ref ra)]) hx hb dXB_firstKindAbove_1 rfl hl (by decide) rfl (fun ls hl => ?_)
  have loop2 : ∀ (n9 : Nat) (k : Int) , 4 - k < (n9 : Int) → f_XB_firstKindAbove_L2 bg bf fp fq fd zg fw n9 k = f_XB_firstKindAbove bg bf fp fq fd zg fw → 0 ≤ k ∧ k ≤ 4 → ∀ ls : Array Slot, lv_has ls 5 [(3, .int (jI k)), (0, .ref ba), (1, .int (jI zg)), (2, .ref ra)] → W p l e R s m ([.ref ba, .int (jI zg), .ref ra] : List Value).toArray below meth c s.heap [] 0 0 Q (F0 m 2 ls []) := by
    intro n9
    induction n9 with
    | zero =>
      intro k hm hF hk
      exact absurd hm (by omega)
    | succ n9 ih2 =>
      intro k hm hF hk ls hl
      refine lv_iload_n hx hb dXB_firstKindAbove_2 rfl (lv_at hl 0 rfl) ?_
      refine ji_iconst hx hb dXB_firstKindAbove_3 ?_
      refine ji_icmp_ge (tgt := 54) hx hb dXB_firstKindAbove_4 (by decide) (by omega) (by omega) (fun c4_ => ?_) (fun c4_ => ?_)
      · refine ji_iconst hx hb dXB_firstKindAbove_54 ?_
        subst hQ
        exact W.iret (v := jI (-1)) hx hb hr (fun t ht hW => ⟨_, rfl, congrArg jI (Eq.trans (by rw [f_XB_firstKindAbove_L2_s]; rw [if_neg (Int.not_lt.mpr c4_)]; try rfl) hF), ht⟩) (fun _ h => nomatch h) dXB_firstKindAbove_55
      · refine lv_aload_n hx hb dXB_firstKindAbove_7 rfl (lv_at hl 1 rfl) ?_
        refine lv_iload_n hx hb dXB_firstKindAbove_8 rfl (lv_at hl 2 rfl) ?_
        refine lv_iload_n hx hb dXB_firstKindAbove_9 rfl (lv_at hl 0 rfl) ?_
        refine jrVi (rest := []) ⟨hx, hb, hml, hown, hts⟩ (c_XB_limitOf l dC dI cA ba bt bp bl bh bq br bd bg bf fp fq zg k (by first | assumption | omega) (by first | assumption | omega) (by first | assumption | omega) (by first | assumption | omega)) (cwV 2 hts (jG_V tw_529 tw_451 tw_452 tw_5 tw_453) rfl rfl rfl (by decide +kernel) (by rw [hR]; exact ⟨Nat.le_of_ble_eq_true rfl, Nat.le_of_ble_eq_true rfl⟩)) hK hP hN [0, 1, 2] rfl 0 0 rfl rfl rfl rfl hl.1 rfl (Nat.le_of_ble_eq_true rfl) dXB_firstKindAbove_10 (by rw [hR]; exact ⟨Nat.le_of_ble_eq_true rfl, Nat.le_of_ble_eq_true rfl⟩) ?_
        have f := f_XB_limitOf_b bg bf fp fq zg k (by first | assumption | omega) (by first | assumption | omega) (by first | assumption | omega) (by first | assumption | omega)
        refine lv_istore (lv' := [(4, .int (jI (f_XB_limitOf bg bf fp fq zg k))), (3, .int (jI k)), (0, .ref ba), (1, .int (jI zg)), (2, .ref ra)]) hx hb dXB_firstKindAbove_13 hl (by decide) rfl (fun ls hl => ?_)
        refine lv_aload_n hx hb dXB_firstKindAbove_15 rfl (lv_at hl 2 rfl) ?_
        refine lv_iload_n hx hb dXB_firstKindAbove_16 rfl (lv_at hl 1 rfl) ?_
        refine jrVi (rest := []) ⟨hx, hb, hml, hown, hts⟩ (c_XB_hasFormula l dC dI cA ba bt bp bl bh bq br bd bg bf k (by first | assumption | omega) (by first | assumption | omega)) (cwV 1 hts (jG_V tw_530 tw_168 tw_169 tw_5 tw_170) rfl rfl rfl (by decide +kernel) (by rw [hR]; exact ⟨Nat.le_of_ble_eq_true rfl, Nat.le_of_ble_eq_true rfl⟩)) hK hP hN [0] rfl 0 0 rfl rfl rfl rfl hl.1 rfl (Nat.le_of_ble_eq_true rfl) dXB_firstKindAbove_17 (by rw [hR]; exact ⟨Nat.le_of_ble_eq_true rfl, Nat.le_of_ble_eq_true rfl⟩) ?_
        have f1 := f_XB_hasFormula_b bg bf k (by first | assumption | omega) (by first | assumption | omega)
        refine ji_if_eq (tgt := 48) hx hb dXB_firstKindAbove_20 (by decide) (by omega) (fun c20_ => ?_) (fun c20_ => ?_)
        · refine ji_iinc (k := 1) (lv' := [(3, .int (jI (k + 1))), (4, .int (jI (f_XB_limitOf bg bf fp fq zg k))), (0, .ref ba), (1, .int (jI zg)), (2, .ref ra)]) hx hb dXB_firstKindAbove_48 hl rfl (by decide) rfl (fun ls hl => ?_)
          refine lv_goto (tgt := 2) hx hb dXB_firstKindAbove_51 (by decide) ?_
          exact ih2 (k + 1) (by omega) (Eq.trans (by rw [f_XB_firstKindAbove_L2_s]; rw [if_pos c4_, if_pos c20_]; try rfl) hF) (by first | assumption | omega) ls (lv_sub hl [0, 2, 3, 4] rfl)
        · refine lv_iload hx hb dXB_firstKindAbove_23 (lv_at hl 0 rfl) ?_
          refine ji_iconst hx hb dXB_firstKindAbove_25 ?_
          refine ji_icmp_eq (tgt := 48) hx hb dXB_firstKindAbove_26 (by decide) (by omega) (by omega) (fun c26_ => ?_) (fun c26_ => ?_)
          · refine ji_iinc (k := 1) (lv' := [(3, .int (jI (k + 1))), (4, .int (jI (f_XB_limitOf bg bf fp fq zg k))), (0, .ref ba), (1, .int (jI zg)), (2, .ref ra)]) hx hb dXB_firstKindAbove_48 hl rfl (by decide) rfl (fun ls hl => ?_)
            refine lv_goto (tgt := 2) hx hb dXB_firstKindAbove_51 (by decide) ?_
            exact ih2 (k + 1) (by omega) (Eq.trans (by rw [f_XB_firstKindAbove_L2_s]; rw [if_pos c4_, if_neg c20_, if_pos c26_]; try rfl) hF) (by first | assumption | omega) ls (lv_sub hl [0, 2, 3, 4] rfl)
          · refine lv_aload_n hx hb dXB_firstKindAbove_29 rfl (lv_at hl 2 rfl) ?_
            refine lv_iload_n hx hb dXB_firstKindAbove_30 rfl (lv_at hl 1 rfl) ?_
            refine lv_aload_n hx hb dXB_firstKindAbove_31 rfl (lv_at hl 4 rfl) ?_
            refine jrVl (rest := []) ⟨hx, hb, hml, hown, hts⟩ (c_XB_scaledSum l dC dI cA ba bt bp bl bh bq br bd bg bf fd k ra fw (by first | assumption | omega) (by first | assumption | omega) (by first | assumption | omega)) (cwV 2 hts (jG_V tw_531 tw_490 tw_491 tw_5 tw_492) rfl rfl rfl (by decide +kernel) (by rw [hR]; exact ⟨Nat.le_of_ble_eq_true rfl, Nat.le_of_ble_eq_true rfl⟩)) hK hP hN [0, 3, 4] rfl 0 0 rfl rfl rfl rfl hl.1 rfl (Nat.le_of_ble_eq_true rfl) dXB_firstKindAbove_32 (by rw [hR]; exact ⟨Nat.le_of_ble_eq_true rfl, Nat.le_of_ble_eq_true rfl⟩) ?_
            have f2 := f_XB_scaledSum_b bg bf fd k fw (by first | assumption | omega) (by first | assumption | omega) (by first | assumption | omega)
            refine lv_iload hx hb dXB_firstKindAbove_35 (lv_at hl 0 rfl) ?_
            refine ji_i2l hx hb dXB_firstKindAbove_37 (by omega) ?_
            refine lv_ldc2 hx hb hown (hts _ (jmem tw_494)) dXB_firstKindAbove_38 ?_
            refine ji_rel (y := 232792560) (by decide) ?_
            refine ji_lmul hx hb dXB_firstKindAbove_41 ?_
            refine ji_lcmp hx hb dXB_firstKindAbove_42 (by omega) (by omega) ?_
            refine ji_if_le (tgt := 48) hx hb dXB_firstKindAbove_43 (by decide) (jcmp_i _ _) (fun c43_ => ?_) (fun c43_ => ?_)
            · have c43_ := jcmp_ngt.mp c43_
              refine ji_iinc (k := 1) (lv' := [(3, .int (jI (k + 1))), (4, .int (jI (f_XB_limitOf bg bf fp fq zg k))), (0, .ref ba), (1, .int (jI zg)), (2, .ref ra)]) hx hb dXB_firstKindAbove_48 hl rfl (by decide) rfl (fun ls hl => ?_)
              refine lv_goto (tgt := 2) hx hb dXB_firstKindAbove_51 (by decide) ?_
              exact ih2 (k + 1) (by omega) (Eq.trans (by rw [f_XB_firstKindAbove_L2_s]; rw [if_pos c4_, if_neg c20_, if_neg c26_, if_neg (Int.not_lt.mpr c43_)]; try rfl) hF) (by first | assumption | omega) ls (lv_sub hl [0, 2, 3, 4] rfl)
            · have c43_ := jcmp_gt.mp c43_
              refine lv_iload_n hx hb dXB_firstKindAbove_46 rfl (lv_at hl 1 rfl) ?_
              subst hQ
              exact W.iret (v := jI k) hx hb hr (fun t ht hW => ⟨_, rfl, congrArg jI (Eq.trans (by rw [f_XB_firstKindAbove_L2_s]; rw [if_pos c4_, if_neg c20_, if_neg c26_, if_pos c43_]; try rfl) hF), ht⟩) (fun _ h => nomatch h) dXB_firstKindAbove_47
  exact loop2 (Int.toNat (4 - 0) + 1) 0 (by omega) (Eq.trans (by rw [f_XB_firstKindAbove_s]; try rfl) rfl) (by first | assumption | omega) ls (lv_sub hl [0, 1, 2, 3] rfl)
end
section
noncomputable def g_XP_start (pn : Int) (pf : Int → Int) : Int :=
  0
noncomputable def f_XP_start : Int → (Int → Int) → Int := jopq g_XP_start
theorem f_XP_start_q : f_XP_start = g_XP_start := jopq_eq _
theorem f_XP_start_s (pn : Int) (pf : Int → Int) : f_XP_start pn pf = (
    0
  ) := by rw [f_XP_start_q]; rfl
set_option maxHeartbeats 4000000 in
set_option maxRecDepth 100000 in
theorem c_XP_start (l : Launch) (dC : Nat → ClassId) (dI : Nat → Nat → Nat) (cA : ClassId) (sz : Nat) (pa : Nat) (ps : Nat) (pn : Int) (pf : Int → Int) : Met l yXP_start (Cond.code yXP_start cXP_start 1 none :: TBL) ({ frames := 0, cells := 0, slots := 0, locals := 0 } : Room) (va_Pc [.ref pa] (jBw (dC, dI) [(cA, .int)] [(pa, .inr (1, [.ref ps, .int (jI pn)])), (ps, .inl (cA, 160, .inl (jA pf)))] sz)) (va_Qv (fun (u : Int) => u = f_XP_start pn pf) (fun u t => jE (dC, dI) [(cA, .int)] [(pa, .inr (1, [.ref ps, .int (jI pn)])), (ps, .inl (cA, 160, .inl (jA pf)))] sz [(pa, .inr (1, [.ref ps, .int (jI u)])), (ps, .inl (cA, 160, .inl (jA pf)))] t) (va_A [(pa, .inr (1, [.ref ps, .int (jI pn)])), (ps, .inl (cA, 160, .inl (jA pf)))] sz)) 0 0 (va_A [(pa, .inr (1, [.ref ps, .int (jI pn)])), (ps, .inl (cA, 160, .inl (jA pf)))] sz) := by
  refine jMet (cc := cXP_start) (maxL := 1) (ret := none) (by decide) rfl ?_
  intro p e s m args below meth c s₁ R Q hR hQ B hml hv
  obtain ⟨rfl, hsz, hP, hK, hD0, hN⟩ := hv
  have hx := B.exec
  have hb := B.bytes
  have hr := B.returns
  have hts := atoms_spec (ws := Cond.code yXP_start cXP_start 1 none :: TBL) B.pre
  have hown : s.vm.findClass RXP = some m.cls := findClass_of_methodNamed B.named
  have hlocks := B.notSynchronized
  subst hsz
  obtain ⟨A, hAe⟩ : ∃ A, A = va_A [(pa, .inr (1, [.ref ps, .int (jI pn)])), (ps, .inl (cA, 160, .inl (jA pf)))] s.heap.size := ⟨_, rfl⟩
  have hD : va_D A [(pa, .inr (1, [.ref ps, .int (jI pn)])), (ps, .inl (cA, 160, .inl (jA pf)))] := by rw [hAe]; exact hD0.self
  have hA : ∀ q : Nat, s.heap.size ≤ q → A q := fun q h => by rw [hAe]; exact Or.inr h
  have hS : va_S A s.heap s.heap [] := va_S.rf
  have hP : va_P (dC, dI) vwCl [(pa, .inr (1, [.ref ps, .int (jI pn)])), (ps, .inl (cA, 160, .inl (jA pf)))] s.heap := hP
  have hl := lv_entry ([.ref pa]) (n := 1) (Nat.le_of_ble_eq_true rfl)
  rw [lg_entry_eq]
  generalize (lg_sl ([.ref pa]) ++ List.replicate (1 - (lg_sl ([.ref pa])).length) Slot.unset).toArray = ls at hl ⊢
  have hl : lv_has ls 1 [(0, .ref pa)] := hl
  refine lv_aload_n hx hb dXP_start_0 rfl (lv_at hl 0 rfl) ?_
  refine ji_iconst hx hb dXP_start_1 ?_
  refine va_put (D := (dC, dI)) (ci := 1) (v := .int (jI 0)) (ty := (.int)) (C := RXP) (T := TXP) (N := 2) hx hb hts (fun w h => jmem (inXP w h)) tyXP tyXP_ok nXP hown hK hP hD hS 0 rfl rfl 1 (by decide) (hts _ (jmem tw_61)) (fun _ h9 => h9) rfl (by decide +kernel) rfl rfl (Nat.le_of_ble_eq_true rfl) dXP_start_2 (fun H locs hP hD hS => ?_)
  have hP : va_P (dC, dI) vwCl [(pa, .inr (1, [.ref ps, .int (jI 0)])), (ps, .inl (cA, 160, .inl (jA pf)))] H := hP
  have hD : va_D A [(pa, .inr (1, [.ref ps, .int (jI 0)])), (ps, .inl (cA, 160, .inl (jA pf)))] := hD
  have hP9 := hP.sub (ws' := [(pa, .inr (1, [.ref ps, .int (jI 0)])), (ps, .inl (cA, 160, .inl (jA pf)))]) [0, 1] rfl
  have hD9 := hD.sub (ws' := [(pa, .inr (1, [.ref ps, .int (jI 0)])), (ps, .inl (cA, 160, .inl (jA pf)))]) [0, 1] (by decide) rfl
  subst hAe
  subst hQ
  exact W.vret hx hb hr (fun t ht hW => ⟨⟨0, rfl, Eq.trans (by rw [f_XP_start_s]; try rfl) rfl, ⟨by rw [ht]; exact hP9, va_K.moved hW.alike hK, hD9⟩⟩, hS.F ht⟩) hS.2.2 dXP_start_5
noncomputable def g_XP_length (pn : Int) (pf : Int → Int) : Int :=
  pn
noncomputable def f_XP_length : Int → (Int → Int) → Int := jopq g_XP_length
theorem f_XP_length_q : f_XP_length = g_XP_length := jopq_eq _
theorem f_XP_length_s (pn : Int) (pf : Int → Int) : f_XP_length pn pf = (
    pn
  ) := by rw [f_XP_length_q]; rfl
set_option maxHeartbeats 4000000 in
set_option maxRecDepth 100000 in
theorem c_XP_length (l : Launch) (dC : Nat → ClassId) (dI : Nat → Nat → Nat) (cA : ClassId) (pa : Nat) (ps : Nat) (pn : Int) (pf : Int → Int) : Met l yXP_length (Cond.code yXP_length cXP_length 1 (some .int) :: TBL) ({ frames := 0, cells := 0, slots := 0, locals := 0 } : Room) (va_Pc [.ref pa] (jB (dC, dI) [(cA, .int)] [(pa, .inr (1, [.ref ps, .int (jI pn)])), (ps, .inl (cA, 160, .inl (jA pf)))])) (vp_Si (fun r => r = jI (f_XP_length pn pf))) 0 0 (fun _ => False) := by
  refine jMet (cc := cXP_length) (maxL := 1) (ret := some .int) (by decide) rfl ?_
  intro p e s m args below meth c s₁ R Q hR hQ B hml hv
  obtain ⟨rfl, hP, hK, hN⟩ := hv
  have hx := B.exec
  have hb := B.bytes
  have hr := B.returns
  have hts := atoms_spec (ws := Cond.code yXP_length cXP_length 1 (some .int) :: TBL) B.pre
  have hown : s.vm.findClass RXP = some m.cls := findClass_of_methodNamed B.named
  have hlocks := B.notSynchronized
  have hP : va_P (dC, dI) vwCl [(pa, .inr (1, [.ref ps, .int (jI pn)])), (ps, .inl (cA, 160, .inl (jA pf)))] s.heap := hP
  have hl := lv_entry ([.ref pa]) (n := 1) (Nat.le_of_ble_eq_true rfl)
  rw [lg_entry_eq]
  generalize (lg_sl ([.ref pa]) ++ List.replicate (1 - (lg_sl ([.ref pa])).length) Slot.unset).toArray = ls at hl ⊢
  have hl : lv_has ls 1 [(0, .ref pa)] := hl
  refine lv_aload_n hx hb dXP_length_0 rfl (lv_at hl 0 rfl) ?_
  refine va_get (D := (dC, dI)) (ci := 1) (v := .int (jI pn)) (C := RXP) (T := TXP) (N := 2) hx hb hts (fun w h => jmem (inXP w h)) hown hK hP 0 rfl rfl 1 (by decide) (hts _ (jmem tw_61)) (fun _ h9 => h9) rfl dXP_length_1 ?_
  subst hQ
  exact W.iret (v := jI pn) hx hb hr (fun t ht hW => ⟨_, rfl, congrArg jI (Eq.trans (by rw [f_XP_length_s]; try rfl) rfl), ht⟩) (fun _ h => nomatch h) dXP_length_4
noncomputable def g_XP_byteAt (pn : Int) (pf : Int → Int) (zi : Int) : Int :=
  if zi < 0 then
    -1
  else
    if zi < pn then
      pf zi
    else
      -1
noncomputable def f_XP_byteAt : Int → (Int → Int) → Int → Int := jopq g_XP_byteAt
theorem f_XP_byteAt_q : f_XP_byteAt = g_XP_byteAt := jopq_eq _
theorem f_XP_byteAt_s (pn : Int) (pf : Int → Int) (zi : Int) : f_XP_byteAt pn pf zi = (
    if zi < 0 then
      -1
    else
      if zi < pn then
        pf zi
      else
        -1
  ) := by rw [f_XP_byteAt_q]; rfl
set_option maxHeartbeats 4000000 in
set_option maxRecDepth 100000 in
theorem c_XP_byteAt (l : Launch) (dC : Nat → ClassId) (dI : Nat → Nat → Nat) (cA : ClassId) (pa : Nat) (ps : Nat) (pn : Int) (pf : Int → Int) (zi : Int) (hpn : 0 ≤ pn ∧ pn ≤ 160) (hzi : i32 zi) : Met l yXP_byteAt (Cond.code yXP_byteAt cXP_byteAt 2 (some .int) :: TBL) ({ frames := 0, cells := 0, slots := 0, locals := 0 } : Room) (va_Pc [.ref pa, .int (jI zi)] (jB (dC, dI) [(cA, .int)] [(pa, .inr (1, [.ref ps, .int (jI pn)])), (ps, .inl (cA, 160, .inl (jA pf)))])) (vp_Si (fun r => r = jI (f_XP_byteAt pn pf zi))) 0 0 (fun _ => False) := by
  refine jMet (cc := cXP_byteAt) (maxL := 2) (ret := some .int) (by decide) rfl ?_
  intro p e s m args below meth c s₁ R Q hR hQ B hml hv
  obtain ⟨rfl, hP, hK, hN⟩ := hv
  have hx := B.exec
  have hb := B.bytes
  have hr := B.returns
  have hts := atoms_spec (ws := Cond.code yXP_byteAt cXP_byteAt 2 (some .int) :: TBL) B.pre
  have hown : s.vm.findClass RXP = some m.cls := findClass_of_methodNamed B.named
  have hlocks := B.notSynchronized
  have hP : va_P (dC, dI) vwCl [(pa, .inr (1, [.ref ps, .int (jI pn)])), (ps, .inl (cA, 160, .inl (jA pf)))] s.heap := hP
  have hl := lv_entry ([.ref pa, .int (jI zi)]) (n := 2) (Nat.le_of_ble_eq_true rfl)
  rw [lg_entry_eq]
  generalize (lg_sl ([.ref pa, .int (jI zi)]) ++ List.replicate (2 - (lg_sl ([.ref pa, .int (jI zi)])).length) Slot.unset).toArray = ls at hl ⊢
  have hl : lv_has ls 2 [(0, .ref pa), (1, .int (jI zi))] := hl
  refine lv_iload_n hx hb dXP_byteAt_0 rfl (lv_at hl 1 rfl) ?_
  refine ji_if_lt (tgt := 21) hx hb dXP_byteAt_1 (by decide) (by omega) (fun c1_ => ?_) (fun c1_ => ?_)
  · refine ji_iconst hx hb dXP_byteAt_21 ?_
    subst hQ
    exact W.iret (v := jI (-1)) hx hb hr (fun t ht hW => ⟨_, rfl, congrArg jI (Eq.trans (by rw [f_XP_byteAt_s]; rw [if_pos c1_]; try rfl) rfl), ht⟩) (fun _ h => nomatch h) dXP_byteAt_22
  · refine lv_iload_n hx hb dXP_byteAt_4 rfl (lv_at hl 1 rfl) ?_
    refine lv_aload_n hx hb dXP_byteAt_5 rfl (lv_at hl 0 rfl) ?_
    refine va_get (D := (dC, dI)) (ci := 1) (v := .int (jI pn)) (C := RXP) (T := TXP) (N := 2) hx hb hts (fun w h => jmem (inXP w h)) hown hK hP 0 rfl rfl 1 (by decide) (hts _ (jmem tw_61)) (fun _ h9 => h9) rfl dXP_byteAt_6 ?_
    refine ji_icmp_ge (tgt := 21) hx hb dXP_byteAt_9 (by decide) (by omega) (by omega) (fun c9_ => ?_) (fun c9_ => ?_)
    · refine ji_iconst hx hb dXP_byteAt_21 ?_
      subst hQ
      exact W.iret (v := jI (-1)) hx hb hr (fun t ht hW => ⟨_, rfl, congrArg jI (Eq.trans (by rw [f_XP_byteAt_s]; rw [if_neg (Int.not_lt.mpr c1_), if_neg (Int.not_lt.mpr c9_)]; try rfl) rfl), ht⟩) (fun _ h => nomatch h) dXP_byteAt_22
    · refine lv_aload_n hx hb dXP_byteAt_12 rfl (lv_at hl 0 rfl) ?_
      refine va_get (D := (dC, dI)) (ci := 1) (v := .ref ps) (C := RXP) (T := TXP) (N := 2) hx hb hts (fun w h => jmem (inXP w h)) hown hK hP 0 rfl rfl 0 (by decide) (hts _ (jmem tw_60)) (fun _ h9 => h9) rfl dXP_byteAt_13 ?_
      refine lv_iload_n hx hb dXP_byteAt_16 rfl (lv_at hl 1 rfl) ?_
      refine ji_iald hx hb hK hP 1 0 rfl rfl ⟨by omega, by omega⟩ (by decide) dXP_byteAt_17 ?_
      refine lv_goto (tgt := 22) hx hb dXP_byteAt_18 (by decide) ?_
      subst hQ
      exact W.iret (v := jI (pf zi)) hx hb hr (fun t ht hW => ⟨_, rfl, congrArg jI (Eq.trans (by rw [f_XP_byteAt_s]; rw [if_neg (Int.not_lt.mpr c1_), if_pos c9_]; try rfl) rfl), ht⟩) (fun _ h => nomatch h) dXP_byteAt_22
noncomputable def g_XP_put (pn : Int) (pf : Int → Int) (zs : Int) : Int × (Int → Int) :=
  if pn < 160 then
    (pn + 1, jset pf pn zs)
  else
    (pn, pf)
noncomputable def f_XP_put : Int → (Int → Int) → Int → Int × (Int → Int) := jopq g_XP_put
theorem f_XP_put_q : f_XP_put = g_XP_put := jopq_eq _
theorem f_XP_put_s (pn : Int) (pf : Int → Int) (zs : Int) : f_XP_put pn pf zs = (
    if pn < 160 then
      (pn + 1, jset pf pn zs)
    else
      (pn, pf)
  ) := by rw [f_XP_put_q]; rfl
theorem f_XP_put_b (pn : Int) (pf : Int → Int) (zs : Int) (hpn : 0 ≤ pn ∧ pn ≤ 160) : 0 ≤ (f_XP_put pn pf zs).1 ∧ (f_XP_put pn pf zs).1 ≤ 160 := by rw [f_XP_put_s]; split <;> dsimp only <;> omega
set_option maxHeartbeats 4000000 in
set_option maxRecDepth 100000 in
theorem c_XP_put (l : Launch) (dC : Nat → ClassId) (dI : Nat → Nat → Nat) (cA : ClassId) (sz : Nat) (pa : Nat) (ps : Nat) (pn : Int) (pf : Int → Int) (zs : Int) (hpn : 0 ≤ pn ∧ pn ≤ 160) : Met l yXP_put (Cond.code yXP_put cXP_put 2 none :: TBL) ({ frames := 0, cells := 0, slots := 0, locals := 0 } : Room) (va_Pc [.ref pa, .int (jI zs)] (jBw (dC, dI) [(cA, .int)] [(pa, .inr (1, [.ref ps, .int (jI pn)])), (ps, .inl (cA, 160, .inl (jA pf)))] sz)) (va_Qv (fun (u : Int × (Int → Int)) => u = f_XP_put pn pf zs) (fun u t => jE (dC, dI) [(cA, .int)] [(pa, .inr (1, [.ref ps, .int (jI pn)])), (ps, .inl (cA, 160, .inl (jA pf)))] sz [(pa, .inr (1, [.ref ps, .int (jI u.1)])), (ps, .inl (cA, 160, .inl (jA u.2)))] t) (va_A [(pa, .inr (1, [.ref ps, .int (jI pn)])), (ps, .inl (cA, 160, .inl (jA pf)))] sz)) 0 0 (va_A [(pa, .inr (1, [.ref ps, .int (jI pn)])), (ps, .inl (cA, 160, .inl (jA pf)))] sz) := by
  refine jMet (cc := cXP_put) (maxL := 2) (ret := none) (by decide) rfl ?_
  intro p e s m args below meth c s₁ R Q hR hQ B hml hv
  obtain ⟨rfl, hsz, hP, hK, hD0, hN⟩ := hv
  have hx := B.exec
  have hb := B.bytes
  have hr := B.returns
  have hts := atoms_spec (ws := Cond.code yXP_put cXP_put 2 none :: TBL) B.pre
  have hown : s.vm.findClass RXP = some m.cls := findClass_of_methodNamed B.named
  have hlocks := B.notSynchronized
  subst hsz
  obtain ⟨A, hAe⟩ : ∃ A, A = va_A [(pa, .inr (1, [.ref ps, .int (jI pn)])), (ps, .inl (cA, 160, .inl (jA pf)))] s.heap.size := ⟨_, rfl⟩
  have hD : va_D A [(pa, .inr (1, [.ref ps, .int (jI pn)])), (ps, .inl (cA, 160, .inl (jA pf)))] := by rw [hAe]; exact hD0.self
  have hA : ∀ q : Nat, s.heap.size ≤ q → A q := fun q h => by rw [hAe]; exact Or.inr h
  have hS : va_S A s.heap s.heap [] := va_S.rf
  have hP : va_P (dC, dI) vwCl [(pa, .inr (1, [.ref ps, .int (jI pn)])), (ps, .inl (cA, 160, .inl (jA pf)))] s.heap := hP
  have hl := lv_entry ([.ref pa, .int (jI zs)]) (n := 2) (Nat.le_of_ble_eq_true rfl)
  rw [lg_entry_eq]
  generalize (lg_sl ([.ref pa, .int (jI zs)]) ++ List.replicate (2 - (lg_sl ([.ref pa, .int (jI zs)])).length) Slot.unset).toArray = ls at hl ⊢
  have hl : lv_has ls 2 [(0, .ref pa), (1, .int (jI zs))] := hl
  refine lv_aload_n hx hb dXP_put_0 rfl (lv_at hl 0 rfl) ?_
  refine va_get (D := (dC, dI)) (ci := 1) (v := .int (jI pn)) (C := RXP) (T := TXP) (N := 2) hx hb hts (fun w h => jmem (inXP w h)) hown hK hP 0 rfl rfl 1 (by decide) (hts _ (jmem tw_61)) (fun _ h9 => h9) rfl dXP_put_1 ?_
  refine ji_sipush hx hb dXP_put_4 (by decide) ?_
  refine ji_icmp_ge (tgt := 30) hx hb dXP_put_7 (by decide) (by omega) (by omega) (fun c7_ => ?_) (fun c7_ => ?_)
  · have hP9 := hP.sub (ws' := [(pa, .inr (1, [.ref ps, .int (jI pn)])), (ps, .inl (cA, 160, .inl (jA pf)))]) [0, 1] rfl
    have hD9 := hD.sub (ws' := [(pa, .inr (1, [.ref ps, .int (jI pn)])), (ps, .inl (cA, 160, .inl (jA pf)))]) [0, 1] (by decide) rfl
    subst hAe
    subst hQ
    exact W.vret hx hb hr (fun t ht hW => ⟨⟨(pn, pf), rfl, Eq.trans (by rw [f_XP_put_s]; rw [if_neg (Int.not_lt.mpr c7_)]; try rfl) rfl, ⟨by rw [ht]; exact hP9, va_K.moved hW.alike hK, hD9⟩⟩, hS.F ht⟩) hS.2.2 dXP_put_30
  · refine lv_aload_n hx hb dXP_put_10 rfl (lv_at hl 0 rfl) ?_
    refine va_get (D := (dC, dI)) (ci := 1) (v := .ref ps) (C := RXP) (T := TXP) (N := 2) hx hb hts (fun w h => jmem (inXP w h)) hown hK hP 0 rfl rfl 0 (by decide) (hts _ (jmem tw_60)) (fun _ h9 => h9) rfl dXP_put_11 ?_
    refine lv_aload_n hx hb dXP_put_14 rfl (lv_at hl 0 rfl) ?_
    refine va_get (D := (dC, dI)) (ci := 1) (v := .int (jI pn)) (C := RXP) (T := TXP) (N := 2) hx hb hts (fun w h => jmem (inXP w h)) hown hK hP 0 rfl rfl 1 (by decide) (hts _ (jmem tw_61)) (fun _ h9 => h9) rfl dXP_put_15 ?_
    refine lv_iload_n hx hb dXP_put_18 rfl (lv_at hl 1 rfl) ?_
    refine ji_iast hx hb hK hP hD hS 1 0 rfl rfl ⟨by omega, by omega⟩ (by decide) dXP_put_19 (fun H locs hP hD hS => ?_)
    have hP : va_P (dC, dI) vwCl [(pa, .inr (1, [.ref ps, .int (jI pn)])), (ps, .inl (cA, 160, .inl (jA (jset pf pn zs))))] H := hP
    have hD : va_D A [(pa, .inr (1, [.ref ps, .int (jI pn)])), (ps, .inl (cA, 160, .inl (jA (jset pf pn zs))))] := hD
    refine lv_aload_n hx hb dXP_put_20 rfl (lv_at hl 0 rfl) ?_
    refine lv_dup hx hb dXP_put_21 rfl ?_
    refine va_get (D := (dC, dI)) (ci := 1) (v := .int (jI pn)) (C := RXP) (T := TXP) (N := 2) hx hb hts (fun w h => jmem (inXP w h)) hown hK hP 0 rfl rfl 1 (by decide) (hts _ (jmem tw_61)) (fun _ h9 => h9) rfl dXP_put_22 ?_
    refine ji_iconst hx hb dXP_put_25 ?_
    refine ji_iadd hx hb dXP_put_26 ?_
    refine va_put (D := (dC, dI)) (ci := 1) (v := .int (jI (pn + 1))) (ty := (.int)) (C := RXP) (T := TXP) (N := 2) hx hb hts (fun w h => jmem (inXP w h)) tyXP tyXP_ok nXP hown hK hP hD hS 0 rfl rfl 1 (by decide) (hts _ (jmem tw_61)) (fun _ h9 => h9) rfl (by decide +kernel) rfl rfl (Nat.le_of_ble_eq_true rfl) dXP_put_27 (fun H locs hP hD hS => ?_)
    have hP : va_P (dC, dI) vwCl [(pa, .inr (1, [.ref ps, .int (jI (pn + 1))])), (ps, .inl (cA, 160, .inl (jA (jset pf pn zs))))] H := hP
    have hD : va_D A [(pa, .inr (1, [.ref ps, .int (jI (pn + 1))])), (ps, .inl (cA, 160, .inl (jA (jset pf pn zs))))] := hD
    have hP9 := hP.sub (ws' := [(pa, .inr (1, [.ref ps, .int (jI (pn + 1))])), (ps, .inl (cA, 160, .inl (jA (jset pf pn zs))))]) [0, 1] rfl
    have hD9 := hD.sub (ws' := [(pa, .inr (1, [.ref ps, .int (jI (pn + 1))])), (ps, .inl (cA, 160, .inl (jA (jset pf pn zs))))]) [0, 1] (by decide) rfl
    subst hAe
    subst hQ
    exact W.vret hx hb hr (fun t ht hW => ⟨⟨(pn + 1, jset pf pn zs), rfl, Eq.trans (by rw [f_XP_put_s]; rw [if_pos c7_]; try rfl) rfl, ⟨by rw [ht]; exact hP9, va_K.moved hW.alike hK, hD9⟩⟩, hS.F ht⟩) hS.2.2 dXP_put_30
noncomputable def g_XP_putNumber_L3 (pn : Int) (pf : Int → Int) (zi : Int) : Nat → Int → Int → (Int → Int) → Int × (Int → Int)
  | 0, _, _, _ => (0, fun _ => 0)
  | n9 + 1, w, q, fa =>
    if 0 < w then
      if zi < w then
        if w = 1 then
          match f_XP_put q fa (48 + (Int.tmod (Int.tdiv zi w) 10)) with
          | (pn1'1, pf1'2) =>
            g_XP_putNumber_L3 pn pf zi n9 (Int.tdiv w 10) pn1'1 pf1'2
        else
          g_XP_putNumber_L3 pn pf zi n9 (Int.tdiv w 10) q fa
      else
        match f_XP_put q fa (48 + (Int.tmod (Int.tdiv zi w) 10)) with
        | (pn1', pf1') =>
          g_XP_putNumber_L3 pn pf zi n9 (Int.tdiv w 10) pn1' pf1'
    else
      (q, fa)
noncomputable def f_XP_putNumber_L3 : Int → (Int → Int) → Int → Nat → Int → Int → (Int → Int) → Int × (Int → Int) := jopq g_XP_putNumber_L3
theorem f_XP_putNumber_L3_q : f_XP_putNumber_L3 = g_XP_putNumber_L3 := jopq_eq _
theorem f_XP_putNumber_L3_s (pn : Int) (pf : Int → Int) (zi : Int) (n9 : Nat) (w : Int) (q : Int) (fa : Int → Int) : f_XP_putNumber_L3 pn pf zi (n9 + 1) w q fa = (
    if 0 < w then
      if zi < w then
        if w = 1 then
          match f_XP_put q fa (48 + (Int.tmod (Int.tdiv zi w) 10)) with
          | (pn1'1, pf1'2) =>
            f_XP_putNumber_L3 pn pf zi n9 (Int.tdiv w 10) pn1'1 pf1'2
        else
          f_XP_putNumber_L3 pn pf zi n9 (Int.tdiv w 10) q fa
      else
        match f_XP_put q fa (48 + (Int.tmod (Int.tdiv zi w) 10)) with
        | (pn1', pf1') =>
          f_XP_putNumber_L3 pn pf zi n9 (Int.tdiv w 10) pn1' pf1'
    else
      (q, fa)
  ) := by rw [f_XP_putNumber_L3_q]; rfl
theorem f_XP_putNumber_L3_z (pn : Int) (pf : Int → Int) (zi : Int) (w : Int) (q : Int) (fa : Int → Int) : f_XP_putNumber_L3 pn pf zi 0 w q fa = (0, fun _ => 0) := by rw [f_XP_putNumber_L3_q]; rfl
noncomputable def g_XP_putNumber (pn : Int) (pf : Int → Int) (zi : Int) : Int × (Int → Int) :=
  f_XP_putNumber_L3 pn pf zi (Int.toNat (100000) + 1) 100000 pn pf
noncomputable def f_XP_putNumber : Int → (Int → Int) → Int → Int × (Int → Int) := jopq g_XP_putNumber
theorem f_XP_putNumber_q : f_XP_putNumber = g_XP_putNumber := jopq_eq _
theorem f_XP_putNumber_s (pn : Int) (pf : Int → Int) (zi : Int) : f_XP_putNumber pn pf zi = (
    f_XP_putNumber_L3 pn pf zi (Int.toNat (100000) + 1) 100000 pn pf
  ) := by rw [f_XP_putNumber_q]; rfl
theorem jx_div {z w : Int} (hz : 0 ≤ z ∧ z < 1000000) (hw : 0 < w) : 0 ≤ z.tdiv w ∧ z.tdiv w < 1000000 := by
  rw [Int.tdiv_eq_ediv_of_nonneg hz.1]
  have h1 := Int.ediv_nonneg hz.1 (show 0 ≤ w by omega)
  have h2 := Int.ediv_le_self w hz.1
  omega
theorem jtd10 {w : Int} (hw : w = 100000 ∨ w = 10000 ∨ w = 1000 ∨ w = 100 ∨ w = 10 ∨ w = 1 ∨ w = 0) : w.tdiv 10 ≤ w ∧ (0 < w → w.tdiv 10 < w) := by rcases hw with rfl | rfl | rfl | rfl | rfl | rfl | rfl <;> decide
theorem f_XP_putNumber_L (pn : Int) (pf : Int → Int) (zi : Int) : ∀ (n : Nat) (w q : Int) (fa : Int → Int), 0 ≤ q ∧ q ≤ 160 → 0 ≤ (f_XP_putNumber_L3 pn pf zi n w q fa).1 ∧ (f_XP_putNumber_L3 pn pf zi n w q fa).1 ≤ 160 := by
  intro n
  induction n with
  | zero => intro w q fa _; simp only [f_XP_putNumber_L3_z] <;> omega
  | succ n ih =>
    intro w q fa h
    have hp := fun x => f_XP_put_b q fa x h
    rw [f_XP_putNumber_L3_s]
    (repeat' split) <;> first | exact ih _ _ _ h | (rename_i e; have h9 := hp (48 + (zi.tdiv w).tmod 10); rw [e] at h9; exact ih _ _ _ h9) | exact h
theorem f_XP_putNumber_b (pn : Int) (pf : Int → Int) (zi : Int) (hpn : 0 ≤ pn ∧ pn ≤ 160) (hzi : 0 ≤ zi ∧ zi < 1000000) : 0 ≤ (f_XP_putNumber pn pf zi).1 ∧ (f_XP_putNumber pn pf zi).1 ≤ 160 := by rw [f_XP_putNumber_s]; exact f_XP_putNumber_L _ _ _ _ _ _ _ hpn
set_option maxHeartbeats 4000000 in
set_option maxRecDepth 100000 in
theorem c_XP_putNumber (l : Launch) (dC : Nat → ClassId) (dI : Nat → Nat → Nat) (cA : ClassId) (sz : Nat) (pa : Nat) (ps : Nat) (pn : Int) (pf : Int → Int) (zi : Int) (hpn : 0 ≤ pn ∧ pn ≤ 160) (hzi : 0 ≤ zi ∧ zi < 1000000) : Met l yXP_putNumber (Cond.code yXP_putNumber cXP_putNumber 3 none :: TBL) ({ frames := 1, cells := 0, slots := 0, locals := 21 } : Room) (va_Pc [.ref pa, .int (jI zi)] (jBw (dC, dI) [(cA, .int)] [(pa, .inr (1, [.ref ps, .int (jI pn)])), (ps, .inl (cA, 160, .inl (jA pf)))] sz)) (va_Qv (fun (u : Int × (Int → Int)) => u = f_XP_putNumber pn pf zi) (fun u t => jE (dC, dI) [(cA, .int)] [(pa, .inr (1, [.ref ps, .int (jI pn)])), (ps, .inl (cA, 160, .inl (jA pf)))] sz [(pa, .inr (1, [.ref ps, .int (jI u.1)])), (ps, .inl (cA, 160, .inl (jA u.2)))] t) (va_A [(pa, .inr (1, [.ref ps, .int (jI pn)])), (ps, .inl (cA, 160, .inl (jA pf)))] sz)) 0 0 (va_A [(pa, .inr (1, [.ref ps, .int (jI pn)])), (ps, .inl (cA, 160, .inl (jA pf)))] sz) := by
  refine jMet (cc := cXP_putNumber) (maxL := 3) (ret := none) (by decide) rfl ?_
  intro p e s m args below meth c s₁ R Q hR hQ B hml hv
  obtain ⟨rfl, hsz, hP, hK, hD0, hN⟩ := hv
  have hx := B.exec
  have hb := B.bytes
  have hr := B.returns
  have hts := atoms_spec (ws := Cond.code yXP_putNumber cXP_putNumber 3 none :: TBL) B.pre
  have hown : s.vm.findClass RXP = some m.cls := findClass_of_methodNamed B.named
  have hlocks := B.notSynchronized
  subst hsz
  obtain ⟨A, hAe⟩ : ∃ A, A = va_A [(pa, .inr (1, [.ref ps, .int (jI pn)])), (ps, .inl (cA, 160, .inl (jA pf)))] s.heap.size := ⟨_, rfl⟩
  have hD : va_D A [(pa, .inr (1, [.ref ps, .int (jI pn)])), (ps, .inl (cA, 160, .inl (jA pf)))] := by rw [hAe]; exact hD0.self
  have hA : ∀ q : Nat, s.heap.size ≤ q → A q := fun q h => by rw [hAe]; exact Or.inr h
  have hS : va_S A s.heap s.heap [] := va_S.rf
  have hP : va_P (dC, dI) vwCl [(pa, .inr (1, [.ref ps, .int (jI pn)])), (ps, .inl (cA, 160, .inl (jA pf)))] s.heap := hP
  have hl := lv_entry ([.ref pa, .int (jI zi)]) (n := 3) (Nat.le_of_ble_eq_true rfl)
  rw [lg_entry_eq]
  generalize (lg_sl ([.ref pa, .int (jI zi)]) ++ List.replicate (3 - (lg_sl ([.ref pa, .int (jI zi)])).length) Slot.unset).toArray = ls at hl ⊢
  have hl : lv_has ls 3 [(0, .ref pa), (1, .int (jI zi))] := hl
  refine lv_ldc hx hb hown (hts _ (jmem tw_593)) dXP_putNumber_0 ?_
  refine ji_re (y := 100000) (by decide) ?_
  refine lv_istore_n (lv' := [(2, .int (jI 100000)), (0, .ref pa), (1, .int (jI zi))]) hx hb dXP_putNumber_2 rfl hl (by decide) rfl (fun ls hl => ?_)
  have loop3 : ∀ (n9 : Nat) (w : Int) (q : Int) (fa : Int → Int) , w < (n9 : Int) → f_XP_putNumber_L3 pn pf zi n9 w q fa = f_XP_putNumber pn pf zi → w = 100000 ∨ w = 10000 ∨ w = 1000 ∨ w = 100 ∨ w = 10 ∨ w = 1 ∨ w = 0 → 0 ≤ q ∧ q ≤ 160 → ∀ (H : Heap) (locs : List Loc), va_P (dC, dI) vwCl [(pa, .inr (1, [.ref ps, .int (jI q)])), (ps, .inl (cA, 160, .inl (jA fa)))] H → va_D A [(pa, .inr (1, [.ref ps, .int (jI q)])), (ps, .inl (cA, 160, .inl (jA fa)))] → va_S A s.heap H locs → ∀ ls : Array Slot, lv_has ls 3 [(2, .int (jI w)), (0, .ref pa), (1, .int (jI zi))] → W p l e R s m ([.ref pa, .int (jI zi)] : List Value).toArray below meth c H locs 0 0 Q (F0 m 3 ls []) := by
    intro n9
    induction n9 with
    | zero =>
      intro w q fa hm hF hw hq
      exact absurd hm (by omega)
    | succ n9 ih3 =>
      intro w q fa hm hF hw hq H locs hP hD hS ls hl
      refine lv_iload_n hx hb dXP_putNumber_3 rfl (lv_at hl 0 rfl) ?_
      refine ji_if_le (tgt := 38) hx hb dXP_putNumber_4 (by decide) (by omega) (fun c4_ => ?_) (fun c4_ => ?_)
      · have hP9 := hP.sub (ws' := [(pa, .inr (1, [.ref ps, .int (jI q)])), (ps, .inl (cA, 160, .inl (jA fa)))]) [0, 1] rfl
        have hD9 := hD.sub (ws' := [(pa, .inr (1, [.ref ps, .int (jI q)])), (ps, .inl (cA, 160, .inl (jA fa)))]) [0, 1] (by decide) rfl
        subst hAe
        subst hQ
        exact W.vret hx hb hr (fun t ht hW => ⟨⟨(q, fa), rfl, Eq.trans (by rw [f_XP_putNumber_L3_s]; rw [if_neg (Int.not_lt.mpr c4_)]; try rfl) hF, ⟨by rw [ht]; exact hP9, va_K.moved hW.alike hK, hD9⟩⟩, hS.F ht⟩) hS.2.2 dXP_putNumber_38
      · refine lv_iload_n hx hb dXP_putNumber_7 rfl (lv_at hl 2 rfl) ?_
        refine lv_iload_n hx hb dXP_putNumber_8 rfl (lv_at hl 0 rfl) ?_
        refine ji_icmp_ge (tgt := 17) hx hb dXP_putNumber_9 (by decide) (by omega) (by omega) (fun c9_ => ?_) (fun c9_ => ?_)
        · refine lv_aload_n hx hb dXP_putNumber_17 rfl (lv_at hl 1 rfl) ?_
          refine ji_bipush hx hb dXP_putNumber_18 (by decide) ?_
          refine lv_iload_n hx hb dXP_putNumber_20 rfl (lv_at hl 2 rfl) ?_
          refine lv_iload_n hx hb dXP_putNumber_21 rfl (lv_at hl 0 rfl) ?_
          refine ji_idiv hx hb dXP_putNumber_22 (by omega) (by omega) (by omega) (by omega) ?_
          refine ji_bipush hx hb dXP_putNumber_23 (by decide) ?_
          refine ji_irem hx hb dXP_putNumber_25 (by have h9 := jx_div hzi (by omega : 0 < w); omega) (by have h9 := jx_div hzi (by omega : 0 < w); omega) (by have h9 := jx_div hzi (by omega : 0 < w); omega) (by have h9 := jx_div hzi (by omega : 0 < w); omega) ?_
          refine ji_iadd hx hb dXP_putNumber_26 ?_
          refine jwVv (rest := []) (wr := []) ⟨hx, hb, hml, hown, hts⟩ (c_XP_put l dC dI cA _ pa ps q fa (48 + (Int.tmod (Int.tdiv zi w) 10)) (by first | assumption | omega)) (cwV 1 hts (jG_V tw_594 tw_586 tw_587 tw_4 tw_588) rfl rfl rfl (by decide +kernel) (by rw [hR]; exact ⟨Nat.le_of_ble_eq_true rfl, Nat.le_of_ble_eq_true rfl⟩)) hK hP hD hS hA hN [0, 1] [] rfl rfl (by decide) (by decide) (by decide) 0 1 rfl rfl rfl rfl hl.1 rfl (Nat.le_of_ble_eq_true rfl) dXP_putNumber_27 (by rw [hR]; exact ⟨Nat.le_of_ble_eq_true rfl, Nat.le_of_ble_eq_true rfl⟩) (fun u H locs hwb hP hD hS => ?_)
          obtain ⟨pn1', pf1'⟩ := u
          try dsimp only at hwb
          have hP : va_P (dC, dI) vwCl [(pa, .inr (1, [.ref ps, .int (jI pn1')])), (ps, .inl (cA, 160, .inl (jA pf1')))] H := hP
          have hD : va_D A [(pa, .inr (1, [.ref ps, .int (jI pn1')])), (ps, .inl (cA, 160, .inl (jA pf1')))] := hD
          have f := f_XP_put_b q fa (48 + (Int.tmod (Int.tdiv zi w) 10)) (by first | assumption | omega)
          rw [← hwb] at f; try dsimp only at f
          refine lv_iload_n hx hb dXP_putNumber_30 rfl (lv_at hl 0 rfl) ?_
          refine ji_bipush hx hb dXP_putNumber_31 (by decide) ?_
          refine ji_idiv hx hb dXP_putNumber_33 (by omega) (by omega) (by omega) (by omega) ?_
          refine lv_istore_n (lv' := [(2, .int (jI (Int.tdiv w 10))), (0, .ref pa), (1, .int (jI zi))]) hx hb dXP_putNumber_34 rfl hl (by decide) rfl (fun ls hl => ?_)
          refine lv_goto (tgt := 3) hx hb dXP_putNumber_35 (by decide) ?_
          exact ih3 (Int.tdiv w 10) pn1' pf1' (by have hz9 := jtd10 hw; omega) (Eq.trans (by rw [f_XP_putNumber_L3_s]; rw [if_pos c4_, if_neg (Int.not_lt.mpr c9_)]; rw [← hwb]; try dsimp only; try rfl) hF) (by rcases hw with rfl | rfl | rfl | rfl | rfl | rfl | rfl <;> first | omega | decide) (by first | assumption | omega) _ _ hP hD hS ls (lv_sub hl [0, 1, 2] rfl)
        · refine lv_iload_n hx hb dXP_putNumber_12 rfl (lv_at hl 0 rfl) ?_
          refine ji_iconst hx hb dXP_putNumber_13 ?_
          refine ji_icmp_ne (tgt := 30) hx hb dXP_putNumber_14 (by decide) (by omega) (by omega) (fun c14_ => ?_) (fun c14_ => ?_)
          · refine lv_iload_n hx hb dXP_putNumber_30 rfl (lv_at hl 0 rfl) ?_
            refine ji_bipush hx hb dXP_putNumber_31 (by decide) ?_
            refine ji_idiv hx hb dXP_putNumber_33 (by omega) (by omega) (by omega) (by omega) ?_
            refine lv_istore_n (lv' := [(2, .int (jI (Int.tdiv w 10))), (0, .ref pa), (1, .int (jI zi))]) hx hb dXP_putNumber_34 rfl hl (by decide) rfl (fun ls hl => ?_)
            refine lv_goto (tgt := 3) hx hb dXP_putNumber_35 (by decide) ?_
            exact ih3 (Int.tdiv w 10) q fa (by have hz9 := jtd10 hw; omega) (Eq.trans (by rw [f_XP_putNumber_L3_s]; rw [if_pos c4_, if_pos c9_, if_neg c14_]; try rfl) hF) (by rcases hw with rfl | rfl | rfl | rfl | rfl | rfl | rfl <;> first | omega | decide) (by first | assumption | omega) _ _ hP hD hS ls (lv_sub hl [0, 1, 2] rfl)
          · refine lv_aload_n hx hb dXP_putNumber_17 rfl (lv_at hl 1 rfl) ?_
            refine ji_bipush hx hb dXP_putNumber_18 (by decide) ?_
            refine lv_iload_n hx hb dXP_putNumber_20 rfl (lv_at hl 2 rfl) ?_
            refine lv_iload_n hx hb dXP_putNumber_21 rfl (lv_at hl 0 rfl) ?_
            refine ji_idiv hx hb dXP_putNumber_22 (by omega) (by omega) (by omega) (by omega) ?_
            refine ji_bipush hx hb dXP_putNumber_23 (by decide) ?_
            refine ji_irem hx hb dXP_putNumber_25 (by have h9 := jx_div hzi (by omega : 0 < w); omega) (by have h9 := jx_div hzi (by omega : 0 < w); omega) (by have h9 := jx_div hzi (by omega : 0 < w); omega) (by have h9 := jx_div hzi (by omega : 0 < w); omega) ?_
            refine ji_iadd hx hb dXP_putNumber_26 ?_
            refine jwVv (rest := []) (wr := []) ⟨hx, hb, hml, hown, hts⟩ (c_XP_put l dC dI cA _ pa ps q fa (48 + (Int.tmod (Int.tdiv zi w) 10)) (by first | assumption | omega)) (cwV 1 hts (jG_V tw_594 tw_586 tw_587 tw_4 tw_588) rfl rfl rfl (by decide +kernel) (by rw [hR]; exact ⟨Nat.le_of_ble_eq_true rfl, Nat.le_of_ble_eq_true rfl⟩)) hK hP hD hS hA hN [0, 1] [] rfl rfl (by decide) (by decide) (by decide) 0 1 rfl rfl rfl rfl hl.1 rfl (Nat.le_of_ble_eq_true rfl) dXP_putNumber_27 (by rw [hR]; exact ⟨Nat.le_of_ble_eq_true rfl, Nat.le_of_ble_eq_true rfl⟩) (fun u3 H locs hwb4 hP hD hS => ?_)
            obtain ⟨pn1'1, pf1'2⟩ := u3
            try dsimp only at hwb4
            have hP : va_P (dC, dI) vwCl [(pa, .inr (1, [.ref ps, .int (jI pn1'1)])), (ps, .inl (cA, 160, .inl (jA pf1'2)))] H := hP
            have hD : va_D A [(pa, .inr (1, [.ref ps, .int (jI pn1'1)])), (ps, .inl (cA, 160, .inl (jA pf1'2)))] := hD
            have f5 := f_XP_put_b q fa (48 + (Int.tmod (Int.tdiv zi w) 10)) (by first | assumption | omega)
            rw [← hwb4] at f5; try dsimp only at f5
            refine lv_iload_n hx hb dXP_putNumber_30 rfl (lv_at hl 0 rfl) ?_
            refine ji_bipush hx hb dXP_putNumber_31 (by decide) ?_
            refine ji_idiv hx hb dXP_putNumber_33 (by omega) (by omega) (by omega) (by omega) ?_
            refine lv_istore_n (lv' := [(2, .int (jI (Int.tdiv w 10))), (0, .ref pa), (1, .int (jI zi))]) hx hb dXP_putNumber_34 rfl hl (by decide) rfl (fun ls hl => ?_)
            refine lv_goto (tgt := 3) hx hb dXP_putNumber_35 (by decide) ?_
            exact ih3 (Int.tdiv w 10) pn1'1 pf1'2 (by have hz9 := jtd10 hw; omega) (Eq.trans (by rw [f_XP_putNumber_L3_s]; rw [if_pos c4_, if_pos c9_, if_pos c14_]; rw [← hwb4]; try dsimp only; try rfl) hF) (by rcases hw with rfl | rfl | rfl | rfl | rfl | rfl | rfl <;> first | omega | decide) (by first | assumption | omega) _ _ hP hD hS ls (lv_sub hl [0, 1, 2] rfl)
  exact loop3 (Int.toNat (100000) + 1) 100000 pn pf (by omega) (Eq.trans (by rw [f_XP_putNumber_s]; try rfl) rfl) (by omega) (by first | assumption | omega) _ _ hP hD hS ls (lv_sub hl [0, 1, 2] rfl)
end
