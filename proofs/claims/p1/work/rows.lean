section
-- ===== PART A: goes FIRST, ahead of the names: the tables' words, and 'selects' of the private methods out of them =====
/-- a private method of a class that the tables say can be made, by its rows of tables_1 -/
def lw_okq (q : MethodName × Nat) : Prop := (q.1.cls ≠ "java/lang/invoke/MethodHandle" ∧ q.1.cls ≠ "java/lang/invoke/VarHandle") ∧ Cond.instantiable q.1.cls q.2 ∈ tables_1 ∧ Cond.privateMethod q.1 ∈ tables_1 ∧ Cond.instanceMethod q.1 ∈ tables_1
theorem lw_p0 : lw_okq (⟨"LineCites$Reader", "expect", "(I)Z"⟩, 7) := ⟨⟨by decide +kernel, by decide +kernel⟩, List.mem_of_getElem? (i := 72) (by decide +kernel), List.mem_of_getElem? (i := 266) (by decide +kernel), List.mem_of_getElem? (i := 267) (by decide +kernel)⟩
theorem lw_p1 : lw_okq (⟨"LineCites$Reader", "step", "()V"⟩, 7) := ⟨⟨by decide +kernel, by decide +kernel⟩, List.mem_of_getElem? (i := 72) (by decide +kernel), List.mem_of_getElem? (i := 270) (by decide +kernel), List.mem_of_getElem? (i := 271) (by decide +kernel)⟩
theorem lw_p2 : lw_okq (⟨"LineCites$Reader", "stepOverFigures", "()V"⟩, 7) := ⟨⟨by decide +kernel, by decide +kernel⟩, List.mem_of_getElem? (i := 72) (by decide +kernel), List.mem_of_getElem? (i := 282) (by decide +kernel), List.mem_of_getElem? (i := 283) (by decide +kernel)⟩
theorem lw_p3 : lw_okq (⟨"LineCites$Reader", "refuse", "(I)Z"⟩, 7) := ⟨⟨by decide +kernel, by decide +kernel⟩, List.mem_of_getElem? (i := 72) (by decide +kernel), List.mem_of_getElem? (i := 286) (by decide +kernel), List.mem_of_getElem? (i := 287) (by decide +kernel)⟩
theorem lw_p4 : lw_okq (⟨"LineCites$Reader", "readEdition", "()Z"⟩, 7) := ⟨⟨by decide +kernel, by decide +kernel⟩, List.mem_of_getElem? (i := 72) (by decide +kernel), List.mem_of_getElem? (i := 298) (by decide +kernel), List.mem_of_getElem? (i := 299) (by decide +kernel)⟩
theorem lw_p5 : lw_okq (⟨"LineCites$Reader", "readStretch", "()Z"⟩, 7) := ⟨⟨by decide +kernel, by decide +kernel⟩, List.mem_of_getElem? (i := 72) (by decide +kernel), List.mem_of_getElem? (i := 306) (by decide +kernel), List.mem_of_getElem? (i := 307) (by decide +kernel)⟩
theorem lw_p6 : lw_okq (⟨"LineCites$Work", "isFree", "(IIII)Z"⟩, 8) := ⟨⟨by decide +kernel, by decide +kernel⟩, List.mem_of_getElem? (i := 40) (by decide +kernel), List.mem_of_getElem? (i := 333) (by decide +kernel), List.mem_of_getElem? (i := 334) (by decide +kernel)⟩
theorem lw_p7 : lw_okq (⟨"LineCites$Work", "setCitedPart", "(III)V"⟩, 8) := ⟨⟨by decide +kernel, by decide +kernel⟩, List.mem_of_getElem? (i := 40) (by decide +kernel), List.mem_of_getElem? (i := 471) (by decide +kernel), List.mem_of_getElem? (i := 472) (by decide +kernel)⟩
theorem lw_p8 : lw_okq (⟨"LineCites", "spanLinesOf", "(I)V"⟩, 14) := ⟨⟨by decide +kernel, by decide +kernel⟩, List.mem_of_getElem? (i := 15) (by decide +kernel), List.mem_of_getElem? (i := 475) (by decide +kernel), List.mem_of_getElem? (i := 476) (by decide +kernel)⟩
theorem lw_p9 : lw_okq (⟨"LineCites", "fillCited", "(LLineCites$Numbering;I)V"⟩, 14) := ⟨⟨by decide +kernel, by decide +kernel⟩, List.mem_of_getElem? (i := 15) (by decide +kernel), List.mem_of_getElem? (i := 479) (by decide +kernel), List.mem_of_getElem? (i := 480) (by decide +kernel)⟩
theorem lw_p10 : lw_okq (⟨"LineCites$Numbering", "fillStretch", "(IIII)V"⟩, 3) := ⟨⟨by decide +kernel, by decide +kernel⟩, List.mem_of_getElem? (i := 120) (by decide +kernel), List.mem_of_getElem? (i := 497) (by decide +kernel), List.mem_of_getElem? (i := 498) (by decide +kernel)⟩
theorem lw_p11 : lw_okq (⟨"LineCites$Spans", "clear", "()V"⟩, 8) := ⟨⟨by decide +kernel, by decide +kernel⟩, List.mem_of_getElem? (i := 136) (by decide +kernel), List.mem_of_getElem? (i := 591) (by decide +kernel), List.mem_of_getElem? (i := 592) (by decide +kernel)⟩
theorem lw_p12 : lw_okq (⟨"LineCites$Spans", "put", "(II)V"⟩, 8) := ⟨⟨by decide +kernel, by decide +kernel⟩, List.mem_of_getElem? (i := 136) (by decide +kernel), List.mem_of_getElem? (i := 602) (by decide +kernel), List.mem_of_getElem? (i := 603) (by decide +kernel)⟩
theorem lw_p13 : lw_okq (⟨"LineCites$Spans", "isPlace", "(I)Z"⟩, 8) := ⟨⟨by decide +kernel, by decide +kernel⟩, List.mem_of_getElem? (i := 136) (by decide +kernel), List.mem_of_getElem? (i := 606) (by decide +kernel), List.mem_of_getElem? (i := 607) (by decide +kernel)⟩
theorem lw_p14 : lw_okq (⟨"LineCites$Spans", "hasSome", "(I)Z"⟩, 8) := ⟨⟨by decide +kernel, by decide +kernel⟩, List.mem_of_getElem? (i := 136) (by decide +kernel), List.mem_of_getElem? (i := 614) (by decide +kernel), List.mem_of_getElem? (i := 615) (by decide +kernel)⟩
theorem lw_p15 : lw_okq (⟨"LineCites$NumberSet", "clear", "()V"⟩, 3) := ⟨⟨by decide +kernel, by decide +kernel⟩, List.mem_of_getElem? (i := 183) (by decide +kernel), List.mem_of_getElem? (i := 670) (by decide +kernel), List.mem_of_getElem? (i := 671) (by decide +kernel)⟩
def lw_privs_1 : List (MethodName × Nat) := [(⟨"LineCites$Reader", "expect", "(I)Z"⟩, 7), (⟨"LineCites$Reader", "step", "()V"⟩, 7), (⟨"LineCites$Reader", "stepOverFigures", "()V"⟩, 7), (⟨"LineCites$Reader", "refuse", "(I)Z"⟩, 7), (⟨"LineCites$Reader", "readEdition", "()Z"⟩, 7), (⟨"LineCites$Reader", "readStretch", "()Z"⟩, 7), (⟨"LineCites$Work", "isFree", "(IIII)Z"⟩, 8), (⟨"LineCites$Work", "setCitedPart", "(III)V"⟩, 8), (⟨"LineCites", "spanLinesOf", "(I)V"⟩, 14), (⟨"LineCites", "fillCited", "(LLineCites$Numbering;I)V"⟩, 14), (⟨"LineCites$Numbering", "fillStretch", "(IIII)V"⟩, 3), (⟨"LineCites$Spans", "clear", "()V"⟩, 8), (⟨"LineCites$Spans", "put", "(II)V"⟩, 8), (⟨"LineCites$Spans", "isPlace", "(I)Z"⟩, 8), (⟨"LineCites$Spans", "hasSome", "(I)Z"⟩, 8), (⟨"LineCites$NumberSet", "clear", "()V"⟩, 3)]
theorem lw_r1 : ∀ q ∈ lw_privs_1, lw_okq q := List.forall_mem_cons.mpr ⟨lw_p0, List.forall_mem_cons.mpr ⟨lw_p1, List.forall_mem_cons.mpr ⟨lw_p2, List.forall_mem_cons.mpr ⟨lw_p3, List.forall_mem_cons.mpr ⟨lw_p4, List.forall_mem_cons.mpr ⟨lw_p5, List.forall_mem_cons.mpr ⟨lw_p6, List.forall_mem_cons.mpr ⟨lw_p7, List.forall_mem_cons.mpr ⟨lw_p8, List.forall_mem_cons.mpr ⟨lw_p9, List.forall_mem_cons.mpr ⟨lw_p10, List.forall_mem_cons.mpr ⟨lw_p11, List.forall_mem_cons.mpr ⟨lw_p12, List.forall_mem_cons.mpr ⟨lw_p13, List.forall_mem_cons.mpr ⟨lw_p14, List.forall_mem_cons.mpr ⟨lw_p15, fun _ h => absurd h List.not_mem_nil⟩⟩⟩⟩⟩⟩⟩⟩⟩⟩⟩⟩⟩⟩⟩⟩
theorem lw_p16 : lw_okq (⟨"LineCites$NumberSet", "putNumbers", "(ILLineCites$Numbering;)V"⟩, 3) := ⟨⟨by decide +kernel, by decide +kernel⟩, List.mem_of_getElem? (i := 183) (by decide +kernel), List.mem_of_getElem? (i := 677) (by decide +kernel), List.mem_of_getElem? (i := 678) (by decide +kernel)⟩
theorem lw_p17 : lw_okq (⟨"LineCites$NumberSet", "put", "(I)V"⟩, 3) := ⟨⟨by decide +kernel, by decide +kernel⟩, List.mem_of_getElem? (i := 183) (by decide +kernel), List.mem_of_getElem? (i := 683) (by decide +kernel), List.mem_of_getElem? (i := 684) (by decide +kernel)⟩
theorem lw_p18 : lw_okq (⟨"LineCites$Spans", "joinsShift", "(I)Z"⟩, 8) := ⟨⟨by decide +kernel, by decide +kernel⟩, List.mem_of_getElem? (i := 136) (by decide +kernel), List.mem_of_getElem? (i := 722) (by decide +kernel), List.mem_of_getElem? (i := 723) (by decide +kernel)⟩
theorem lw_p19 : lw_okq (⟨"LineCites$Spans", "putSpan", "(ILLineCites$Spans;I)V"⟩, 8) := ⟨⟨by decide +kernel, by decide +kernel⟩, List.mem_of_getElem? (i := 136) (by decide +kernel), List.mem_of_getElem? (i := 752) (by decide +kernel), List.mem_of_getElem? (i := 753) (by decide +kernel)⟩
theorem lw_p20 : lw_okq (⟨"LineCites", "isSameLines", "(IIII)Z"⟩, 14) := ⟨⟨by decide +kernel, by decide +kernel⟩, List.mem_of_getElem? (i := 15) (by decide +kernel), List.mem_of_getElem? (i := 791) (by decide +kernel), List.mem_of_getElem? (i := 792) (by decide +kernel)⟩
theorem lw_p21 : lw_okq (⟨"LineCites", "isCited", "(LLineCites$Numbering;II)Z"⟩, 14) := ⟨⟨by decide +kernel, by decide +kernel⟩, List.mem_of_getElem? (i := 15) (by decide +kernel), List.mem_of_getElem? (i := 799) (by decide +kernel), List.mem_of_getElem? (i := 800) (by decide +kernel)⟩
theorem lw_p22 : lw_okq (⟨"LineCites", "scoreOf", "(I)I"⟩, 14) := ⟨⟨by decide +kernel, by decide +kernel⟩, List.mem_of_getElem? (i := 15) (by decide +kernel), List.mem_of_getElem? (i := 811) (by decide +kernel), List.mem_of_getElem? (i := 812) (by decide +kernel)⟩
theorem lw_p23 : lw_okq (⟨"LineCitesModel", "reads", "()V"⟩, 25) := ⟨⟨by decide +kernel, by decide +kernel⟩, List.mem_of_getElem? (i := 866) (by decide +kernel), List.mem_of_getElem? (i := 963) (by decide +kernel), List.mem_of_getElem? (i := 964) (by decide +kernel)⟩
theorem lw_p24 : lw_okq (⟨"LineCitesModel", "byteAt", "(I)I"⟩, 25) := ⟨⟨by decide +kernel, by decide +kernel⟩, List.mem_of_getElem? (i := 866) (by decide +kernel), List.mem_of_getElem? (i := 967) (by decide +kernel), List.mem_of_getElem? (i := 968) (by decide +kernel)⟩
theorem lw_p25 : lw_okq (⟨"LineCitesModel", "isLetter", "(I)Z"⟩, 25) := ⟨⟨by decide +kernel, by decide +kernel⟩, List.mem_of_getElem? (i := 866) (by decide +kernel), List.mem_of_getElem? (i := 975) (by decide +kernel), List.mem_of_getElem? (i := 976) (by decide +kernel)⟩
theorem lw_p26 : lw_okq (⟨"LineCitesModel", "bad", "(I)V"⟩, 25) := ⟨⟨by decide +kernel, by decide +kernel⟩, List.mem_of_getElem? (i := 866) (by decide +kernel), List.mem_of_getElem? (i := 979) (by decide +kernel), List.mem_of_getElem? (i := 980) (by decide +kernel)⟩
theorem lw_p27 : lw_okq (⟨"LineCitesModel", "goesOn", "()V"⟩, 25) := ⟨⟨by decide +kernel, by decide +kernel⟩, List.mem_of_getElem? (i := 866) (by decide +kernel), List.mem_of_getElem? (i := 983) (by decide +kernel), List.mem_of_getElem? (i := 984) (by decide +kernel)⟩
theorem lw_p28 : lw_okq (⟨"LineCitesModel", "number", "(ZI)I"⟩, 25) := ⟨⟨by decide +kernel, by decide +kernel⟩, List.mem_of_getElem? (i := 866) (by decide +kernel), List.mem_of_getElem? (i := 988) (by decide +kernel), List.mem_of_getElem? (i := 989) (by decide +kernel)⟩
theorem lw_p29 : lw_okq (⟨"LineCitesModel", "sign", "(I)V"⟩, 25) := ⟨⟨by decide +kernel, by decide +kernel⟩, List.mem_of_getElem? (i := 866) (by decide +kernel), List.mem_of_getElem? (i := 992) (by decide +kernel), List.mem_of_getElem? (i := 993) (by decide +kernel)⟩
theorem lw_p30 : lw_okq (⟨"LineCitesModel", "readsEdition", "()V"⟩, 25) := ⟨⟨by decide +kernel, by decide +kernel⟩, List.mem_of_getElem? (i := 866) (by decide +kernel), List.mem_of_getElem? (i := 996) (by decide +kernel), List.mem_of_getElem? (i := 997) (by decide +kernel)⟩
theorem lw_p31 : lw_okq (⟨"LineCitesModel", "sort", "()I"⟩, 25) := ⟨⟨by decide +kernel, by decide +kernel⟩, List.mem_of_getElem? (i := 866) (by decide +kernel), List.mem_of_getElem? (i := 1000) (by decide +kernel), List.mem_of_getElem? (i := 1001) (by decide +kernel)⟩
def lw_privs_2 : List (MethodName × Nat) := [(⟨"LineCites$NumberSet", "putNumbers", "(ILLineCites$Numbering;)V"⟩, 3), (⟨"LineCites$NumberSet", "put", "(I)V"⟩, 3), (⟨"LineCites$Spans", "joinsShift", "(I)Z"⟩, 8), (⟨"LineCites$Spans", "putSpan", "(ILLineCites$Spans;I)V"⟩, 8), (⟨"LineCites", "isSameLines", "(IIII)Z"⟩, 14), (⟨"LineCites", "isCited", "(LLineCites$Numbering;II)Z"⟩, 14), (⟨"LineCites", "scoreOf", "(I)I"⟩, 14), (⟨"LineCitesModel", "reads", "()V"⟩, 25), (⟨"LineCitesModel", "byteAt", "(I)I"⟩, 25), (⟨"LineCitesModel", "isLetter", "(I)Z"⟩, 25), (⟨"LineCitesModel", "bad", "(I)V"⟩, 25), (⟨"LineCitesModel", "goesOn", "()V"⟩, 25), (⟨"LineCitesModel", "number", "(ZI)I"⟩, 25), (⟨"LineCitesModel", "sign", "(I)V"⟩, 25), (⟨"LineCitesModel", "readsEdition", "()V"⟩, 25), (⟨"LineCitesModel", "sort", "()I"⟩, 25)]
theorem lw_r2 : ∀ q ∈ lw_privs_2, lw_okq q := List.forall_mem_cons.mpr ⟨lw_p16, List.forall_mem_cons.mpr ⟨lw_p17, List.forall_mem_cons.mpr ⟨lw_p18, List.forall_mem_cons.mpr ⟨lw_p19, List.forall_mem_cons.mpr ⟨lw_p20, List.forall_mem_cons.mpr ⟨lw_p21, List.forall_mem_cons.mpr ⟨lw_p22, List.forall_mem_cons.mpr ⟨lw_p23, List.forall_mem_cons.mpr ⟨lw_p24, List.forall_mem_cons.mpr ⟨lw_p25, List.forall_mem_cons.mpr ⟨lw_p26, List.forall_mem_cons.mpr ⟨lw_p27, List.forall_mem_cons.mpr ⟨lw_p28, List.forall_mem_cons.mpr ⟨lw_p29, List.forall_mem_cons.mpr ⟨lw_p30, List.forall_mem_cons.mpr ⟨lw_p31, fun _ h => absurd h List.not_mem_nil⟩⟩⟩⟩⟩⟩⟩⟩⟩⟩⟩⟩⟩⟩⟩⟩
theorem lw_p32 : lw_okq (⟨"LineCitesModel", "readsStretch", "(I)V"⟩, 25) := ⟨⟨by decide +kernel, by decide +kernel⟩, List.mem_of_getElem? (i := 866) (by decide +kernel), List.mem_of_getElem? (i := 1005) (by decide +kernel), List.mem_of_getElem? (i := 1006) (by decide +kernel)⟩
theorem lw_p33 : lw_okq (⟨"LineCitesModel", "isEdition", "(I)Z"⟩, 25) := ⟨⟨by decide +kernel, by decide +kernel⟩, List.mem_of_getElem? (i := 866) (by decide +kernel), List.mem_of_getElem? (i := 1051) (by decide +kernel), List.mem_of_getElem? (i := 1052) (by decide +kernel)⟩
theorem lw_p34 : lw_okq (⟨"LineCitesModel", "isWork", "()Z"⟩, 25) := ⟨⟨by decide +kernel, by decide +kernel⟩, List.mem_of_getElem? (i := 866) (by decide +kernel), List.mem_of_getElem? (i := 1055) (by decide +kernel), List.mem_of_getElem? (i := 1056) (by decide +kernel)⟩
theorem lw_p35 : lw_okq (⟨"LineCitesModel", "isGood", "(IIIIII)Z"⟩, 25) := ⟨⟨by decide +kernel, by decide +kernel⟩, List.mem_of_getElem? (i := 866) (by decide +kernel), List.mem_of_getElem? (i := 1059) (by decide +kernel), List.mem_of_getElem? (i := 1060) (by decide +kernel)⟩
theorem lw_p36 : lw_okq (⟨"LineCitesModel", "notes", "()V"⟩, 25) := ⟨⟨by decide +kernel, by decide +kernel⟩, List.mem_of_getElem? (i := 866) (by decide +kernel), List.mem_of_getElem? (i := 1064) (by decide +kernel), List.mem_of_getElem? (i := 1065) (by decide +kernel)⟩
theorem lw_p37 : lw_okq (⟨"LineCitesModel", "isStretch", "(II)Z"⟩, 25) := ⟨⟨by decide +kernel, by decide +kernel⟩, List.mem_of_getElem? (i := 866) (by decide +kernel), List.mem_of_getElem? (i := 1072) (by decide +kernel), List.mem_of_getElem? (i := 1073) (by decide +kernel)⟩
theorem lw_p38 : lw_okq (⟨"LineCitesModel", "lays", "()V"⟩, 25) := ⟨⟨by decide +kernel, by decide +kernel⟩, List.mem_of_getElem? (i := 866) (by decide +kernel), List.mem_of_getElem? (i := 1087) (by decide +kernel), List.mem_of_getElem? (i := 1088) (by decide +kernel)⟩
theorem lw_p39 : lw_okq (⟨"LineCitesModel", "laysLines", "(II[Z)V"⟩, 25) := ⟨⟨by decide +kernel, by decide +kernel⟩, List.mem_of_getElem? (i := 866) (by decide +kernel), List.mem_of_getElem? (i := 1091) (by decide +kernel), List.mem_of_getElem? (i := 1092) (by decide +kernel)⟩
theorem lw_p40 : lw_okq (⟨"LineCitesModel", "cited", "(II)I"⟩, 25) := ⟨⟨by decide +kernel, by decide +kernel⟩, List.mem_of_getElem? (i := 866) (by decide +kernel), List.mem_of_getElem? (i := 1095) (by decide +kernel), List.mem_of_getElem? (i := 1096) (by decide +kernel)⟩
theorem lw_p41 : lw_okq (⟨"LineCitesModel", "lastOf", "(I)I"⟩, 25) := ⟨⟨by decide +kernel, by decide +kernel⟩, List.mem_of_getElem? (i := 866) (by decide +kernel), List.mem_of_getElem? (i := 1099) (by decide +kernel), List.mem_of_getElem? (i := 1100) (by decide +kernel)⟩
theorem lw_p42 : lw_okq (⟨"LineCitesModel", "laysSpan", "(III[Z)V"⟩, 25) := ⟨⟨by decide +kernel, by decide +kernel⟩, List.mem_of_getElem? (i := 866) (by decide +kernel), List.mem_of_getElem? (i := 1103) (by decide +kernel), List.mem_of_getElem? (i := 1104) (by decide +kernel)⟩
theorem lw_p43 : lw_okq (⟨"LineCitesModel", "hasNumber", "(II)Z"⟩, 25) := ⟨⟨by decide +kernel, by decide +kernel⟩, List.mem_of_getElem? (i := 866) (by decide +kernel), List.mem_of_getElem? (i := 1110) (by decide +kernel), List.mem_of_getElem? (i := 1111) (by decide +kernel)⟩
theorem lw_p44 : lw_okq (⟨"LineCitesModel", "isCitation", "(I)Z"⟩, 25) := ⟨⟨by decide +kernel, by decide +kernel⟩, List.mem_of_getElem? (i := 866) (by decide +kernel), List.mem_of_getElem? (i := 1121) (by decide +kernel), List.mem_of_getElem? (i := 1122) (by decide +kernel)⟩
theorem lw_p45 : lw_okq (⟨"LineCitesModel", "citations", "()I"⟩, 25) := ⟨⟨by decide +kernel, by decide +kernel⟩, List.mem_of_getElem? (i := 866) (by decide +kernel), List.mem_of_getElem? (i := 1125) (by decide +kernel), List.mem_of_getElem? (i := 1126) (by decide +kernel)⟩
theorem lw_p46 : lw_okq (⟨"LineCitesModel", "isLine", "(I)Z"⟩, 25) := ⟨⟨by decide +kernel, by decide +kernel⟩, List.mem_of_getElem? (i := 866) (by decide +kernel), List.mem_of_getElem? (i := 1133) (by decide +kernel), List.mem_of_getElem? (i := 1134) (by decide +kernel)⟩
theorem lw_p47 : lw_okq (⟨"LineCitesModel", "linesWith", "(I)I"⟩, 25) := ⟨⟨by decide +kernel, by decide +kernel⟩, List.mem_of_getElem? (i := 866) (by decide +kernel), List.mem_of_getElem? (i := 1151) (by decide +kernel), List.mem_of_getElem? (i := 1152) (by decide +kernel)⟩
def lw_privs_3 : List (MethodName × Nat) := [(⟨"LineCitesModel", "readsStretch", "(I)V"⟩, 25), (⟨"LineCitesModel", "isEdition", "(I)Z"⟩, 25), (⟨"LineCitesModel", "isWork", "()Z"⟩, 25), (⟨"LineCitesModel", "isGood", "(IIIIII)Z"⟩, 25), (⟨"LineCitesModel", "notes", "()V"⟩, 25), (⟨"LineCitesModel", "isStretch", "(II)Z"⟩, 25), (⟨"LineCitesModel", "lays", "()V"⟩, 25), (⟨"LineCitesModel", "laysLines", "(II[Z)V"⟩, 25), (⟨"LineCitesModel", "cited", "(II)I"⟩, 25), (⟨"LineCitesModel", "lastOf", "(I)I"⟩, 25), (⟨"LineCitesModel", "laysSpan", "(III[Z)V"⟩, 25), (⟨"LineCitesModel", "hasNumber", "(II)Z"⟩, 25), (⟨"LineCitesModel", "isCitation", "(I)Z"⟩, 25), (⟨"LineCitesModel", "citations", "()I"⟩, 25), (⟨"LineCitesModel", "isLine", "(I)Z"⟩, 25), (⟨"LineCitesModel", "linesWith", "(I)I"⟩, 25)]
theorem lw_r3 : ∀ q ∈ lw_privs_3, lw_okq q := List.forall_mem_cons.mpr ⟨lw_p32, List.forall_mem_cons.mpr ⟨lw_p33, List.forall_mem_cons.mpr ⟨lw_p34, List.forall_mem_cons.mpr ⟨lw_p35, List.forall_mem_cons.mpr ⟨lw_p36, List.forall_mem_cons.mpr ⟨lw_p37, List.forall_mem_cons.mpr ⟨lw_p38, List.forall_mem_cons.mpr ⟨lw_p39, List.forall_mem_cons.mpr ⟨lw_p40, List.forall_mem_cons.mpr ⟨lw_p41, List.forall_mem_cons.mpr ⟨lw_p42, List.forall_mem_cons.mpr ⟨lw_p43, List.forall_mem_cons.mpr ⟨lw_p44, List.forall_mem_cons.mpr ⟨lw_p45, List.forall_mem_cons.mpr ⟨lw_p46, List.forall_mem_cons.mpr ⟨lw_p47, fun _ h => absurd h List.not_mem_nil⟩⟩⟩⟩⟩⟩⟩⟩⟩⟩⟩⟩⟩⟩⟩⟩
theorem lw_p48 : lw_okq (⟨"LineCitesModel", "laysNumbers", "(I[Z)V"⟩, 25) := ⟨⟨by decide +kernel, by decide +kernel⟩, List.mem_of_getElem? (i := 866) (by decide +kernel), List.mem_of_getElem? (i := 1155) (by decide +kernel), List.mem_of_getElem? (i := 1156) (by decide +kernel)⟩
theorem lw_p49 : lw_okq (⟨"LineCitesModel", "numbersThat", "(II)I"⟩, 25) := ⟨⟨by decide +kernel, by decide +kernel⟩, List.mem_of_getElem? (i := 866) (by decide +kernel), List.mem_of_getElem? (i := 1168) (by decide +kernel), List.mem_of_getElem? (i := 1169) (by decide +kernel)⟩
theorem lw_p50 : lw_okq (⟨"LineCitesModel", "meantBy", "(III)I"⟩, 25) := ⟨⟨by decide +kernel, by decide +kernel⟩, List.mem_of_getElem? (i := 866) (by decide +kernel), List.mem_of_getElem? (i := 1172) (by decide +kernel), List.mem_of_getElem? (i := 1173) (by decide +kernel)⟩
theorem lw_p51 : lw_okq (⟨"LineCitesModel", "isMeant", "(III)Z"⟩, 25) := ⟨⟨by decide +kernel, by decide +kernel⟩, List.mem_of_getElem? (i := 866) (by decide +kernel), List.mem_of_getElem? (i := 1176) (by decide +kernel), List.mem_of_getElem? (i := 1177) (by decide +kernel)⟩
theorem lw_p52 : lw_okq (⟨"LineCitesModel", "comes", "(III[Z)V"⟩, 25) := ⟨⟨by decide +kernel, by decide +kernel⟩, List.mem_of_getElem? (i := 866) (by decide +kernel), List.mem_of_getElem? (i := 1197) (by decide +kernel), List.mem_of_getElem? (i := 1198) (by decide +kernel)⟩
theorem lw_p53 : lw_okq (⟨"LineCitesModel", "goes", "(IIII)V"⟩, 25) := ⟨⟨by decide +kernel, by decide +kernel⟩, List.mem_of_getElem? (i := 866) (by decide +kernel), List.mem_of_getElem? (i := 1205) (by decide +kernel), List.mem_of_getElem? (i := 1206) (by decide +kernel)⟩
theorem lw_p54 : lw_okq (⟨"LineCitesModel", "toldShift", "(I)I"⟩, 25) := ⟨⟨by decide +kernel, by decide +kernel⟩, List.mem_of_getElem? (i := 866) (by decide +kernel), List.mem_of_getElem? (i := 1213) (by decide +kernel), List.mem_of_getElem? (i := 1214) (by decide +kernel)⟩
theorem lw_p55 : lw_okq (⟨"LineCitesModel", "isMore", "(III)Z"⟩, 25) := ⟨⟨by decide +kernel, by decide +kernel⟩, List.mem_of_getElem? (i := 866) (by decide +kernel), List.mem_of_getElem? (i := 1217) (by decide +kernel), List.mem_of_getElem? (i := 1218) (by decide +kernel)⟩
theorem lw_p56 : lw_okq (⟨"LineCitesModel", "scoreOf", "(I)I"⟩, 25) := ⟨⟨by decide +kernel, by decide +kernel⟩, List.mem_of_getElem? (i := 866) (by decide +kernel), List.mem_of_getElem? (i := 1253) (by decide +kernel), List.mem_of_getElem? (i := 1254) (by decide +kernel)⟩
theorem lw_p57 : lw_okq (⟨"LineCitesModel", "allStretches", "()I"⟩, 25) := ⟨⟨by decide +kernel, by decide +kernel⟩, List.mem_of_getElem? (i := 866) (by decide +kernel), List.mem_of_getElem? (i := 1273) (by decide +kernel), List.mem_of_getElem? (i := 1274) (by decide +kernel)⟩
def lw_privs_4 : List (MethodName × Nat) := [(⟨"LineCitesModel", "laysNumbers", "(I[Z)V"⟩, 25), (⟨"LineCitesModel", "numbersThat", "(II)I"⟩, 25), (⟨"LineCitesModel", "meantBy", "(III)I"⟩, 25), (⟨"LineCitesModel", "isMeant", "(III)Z"⟩, 25), (⟨"LineCitesModel", "comes", "(III[Z)V"⟩, 25), (⟨"LineCitesModel", "goes", "(IIII)V"⟩, 25), (⟨"LineCitesModel", "toldShift", "(I)I"⟩, 25), (⟨"LineCitesModel", "isMore", "(III)Z"⟩, 25), (⟨"LineCitesModel", "scoreOf", "(I)I"⟩, 25), (⟨"LineCitesModel", "allStretches", "()I"⟩, 25)]
theorem lw_r4 : ∀ q ∈ lw_privs_4, lw_okq q := List.forall_mem_cons.mpr ⟨lw_p48, List.forall_mem_cons.mpr ⟨lw_p49, List.forall_mem_cons.mpr ⟨lw_p50, List.forall_mem_cons.mpr ⟨lw_p51, List.forall_mem_cons.mpr ⟨lw_p52, List.forall_mem_cons.mpr ⟨lw_p53, List.forall_mem_cons.mpr ⟨lw_p54, List.forall_mem_cons.mpr ⟨lw_p55, List.forall_mem_cons.mpr ⟨lw_p56, List.forall_mem_cons.mpr ⟨lw_p57, fun _ h => absurd h List.not_mem_nil⟩⟩⟩⟩⟩⟩⟩⟩⟩⟩
def lw_privs : List (MethodName × Nat) := lw_privs_1 ++ (lw_privs_2 ++ (lw_privs_3 ++ (lw_privs_4)))
def lw_tbl : List Cond := k2_sels lw_privs ++ tables_1
theorem lw_privs_ok : ∀ q ∈ lw_privs, lw_okq q := by
  show ∀ q ∈ lw_privs_1 ++ (lw_privs_2 ++ (lw_privs_3 ++ (lw_privs_4))), lw_okq q
  exact List.forall_mem_append.mpr ⟨lw_r1, List.forall_mem_append.mpr ⟨lw_r2, List.forall_mem_append.mpr ⟨lw_r3, lw_r4⟩⟩⟩
/-- the streams that the claim lets the run draw from -/
abbrev lw_cs : List Choice := [Jvm.Choice.named "NaN.bits"]
theorem lw_bits : nanBits ∈ lw_cs := by first | decide | exact List.mem_cons_self | simp [lw_cs, nanBits]
end
section
theorem goodIn_r {big : List Cond} (ws : List Cond) (ps : List Nat) (hp : ws = ps.filterMap (fun i => big[i]?)) (h : ws.all goodWord = true) : GoodIn big ws := by
  intro w hw
  have h1 := List.all_eq_true.mp h w hw
  rw [hp] at hw
  obtain ⟨i, -, hi⟩ := List.mem_filterMap.mp hw
  have hm : w ∈ big := by first | exact List.mem_of_getElem? hi | exact List.getElem?_mem hi
  exact ⟨hm, good_of_word h1⟩
theorem goodIn_app {big a b : List Cond} (ha : GoodIn big a) (hb : GoodIn big b) : GoodIn big (a ++ b) := fun w h => (List.mem_append.mp h).elim (ha w) (hb w)
theorem goodIn_ca {big a b : List Cond} {c : Cond} (ha : GoodIn big (c :: a)) (hb : GoodIn big b) : GoodIn big (c :: (a ++ b)) := fun w h => (List.mem_cons.mp h).elim (fun e => ha w (List.mem_cons.mpr (Or.inl e))) (fun h => (List.mem_append.mp h).elim (fun h => ha w (List.mem_cons.mpr (Or.inr h))) (hb w))
theorem goodIn_sub {big ws : List Cond} (hm : ∀ w ∈ ws, w ∈ big) (h : ws.all goodWord = true) : GoodIn big ws := fun w hw => ⟨hm w hw, good_of_word (List.all_eq_true.mp h w hw)⟩
def RX0 : String := "LineCites$Acts"
def TX0 : u_T := fun k => match k with
  | 0 => ("LineCites$Acts", "ring", "[LLineCites$Work;", true)
  | 1 => ("LineCites$Acts", "next", "I", false)
  | _ => ("LineCites$Acts", "size", "I", false)
def tyX0 : Nat → FieldType := fun k => match k with
  | 0 => .array (.object "LineCites$Work")
  | 1 => .int
  | _ => .int
abbrev wsX00 : List Cond := u_ws RX0 TX0 3
theorem nmX0 : ∀ a, a < 3 → ∀ b, b < 3 → a ≠ b → (TX0 a).2.1 ≠ (TX0 b).2.1 := by decide +kernel
theorem tyX0_ok : ∀ k, k < 3 → parseFieldDescriptor (TX0 k).2.2.1 = some (tyX0 k) := by decide +kernel
def RX1 : String := "LineCites$Image"
def TX1 : u_T := fun k => match k with
  | 0 => ("LineCites$Image", "work", "LLineCites$Work;", true)
  | _ => ("LineCites$Image", "tape", "LLineCites$Tape;", true)
def tyX1 : Nat → FieldType := fun k => match k with
  | 0 => .object "LineCites$Work"
  | _ => .object "LineCites$Tape"
abbrev wsX10 : List Cond := u_ws RX1 TX1 2
theorem nmX1 : ∀ a, a < 2 → ∀ b, b < 2 → a ≠ b → (TX1 a).2.1 ≠ (TX1 b).2.1 := by decide +kernel
theorem tyX1_ok : ∀ k, k < 2 → parseFieldDescriptor (TX1 k).2.2.1 = some (tyX1 k) := by decide +kernel
def RX2 : String := "LineCites$NumberSet"
def TX2 : u_T := fun k => match k with
  | 0 => ("LineCites$NumberSet", "marks", "[I", true)
  | 1 => ("LineCites$NumberSet", "span", "LLineCites$Span;", true)
  | _ => ("LineCites$NumberSet", "round", "I", false)
def tyX2 : Nat → FieldType := fun k => match k with
  | 0 => .array .int
  | 1 => .object "LineCites$Span"
  | _ => .int
abbrev wsX20 : List Cond := u_ws RX2 TX2 3
theorem nmX2 : ∀ a, a < 3 → ∀ b, b < 3 → a ≠ b → (TX2 a).2.1 ≠ (TX2 b).2.1 := by decide +kernel
theorem tyX2_ok : ∀ k, k < 3 → parseFieldDescriptor (TX2 k).2.2.1 = some (tyX2 k) := by decide +kernel
def RX3 : String := "LineCites$Numbering"
def TX3 : u_T := fun k => match k with
  | 0 => ("LineCites$Numbering", "lows", "[I", true)
  | 1 => ("LineCites$Numbering", "highs", "[I", true)
  | _ => ("LineCites$Numbering", "lines", "I", false)
def tyX3 : Nat → FieldType := fun k => match k with
  | 0 => .array .int
  | 1 => .array .int
  | _ => .int
abbrev wsX30 : List Cond := u_ws RX3 TX3 3
theorem nmX3 : ∀ a, a < 3 → ∀ b, b < 3 → a ≠ b → (TX3 a).2.1 ≠ (TX3 b).2.1 := by decide +kernel
theorem tyX3_ok : ∀ k, k < 3 → parseFieldDescriptor (TX3 k).2.2.1 = some (tyX3 k) := by decide +kernel
def RX4 : String := "LineCites$Reader"
def TX4 : u_T := fun k => match k with
  | 0 => ("LineCites$Reader", "tape", "LLineCites$Tape;", true)
  | 1 => ("LineCites$Reader", "draft", "LLineCites$Work;", true)
  | 2 => ("LineCites$Reader", "at", "I", false)
  | 3 => ("LineCites$Reader", "token", "I", false)
  | 4 => ("LineCites$Reader", "place", "I", false)
  | 5 => ("LineCites$Reader", "value", "I", false)
  | _ => ("LineCites$Reader", "faultNumber", "I", false)
def tyX4 : Nat → FieldType := fun k => match k with
  | 0 => .object "LineCites$Tape"
  | 1 => .object "LineCites$Work"
  | 2 => .int
  | 3 => .int
  | 4 => .int
  | 5 => .int
  | _ => .int
abbrev wsX40 : List Cond := u_ws RX4 TX4 7
theorem nmX4 : ∀ a, a < 7 → ∀ b, b < 7 → a ≠ b → (TX4 a).2.1 ≠ (TX4 b).2.1 := by decide +kernel
theorem tyX4_ok : ∀ k, k < 7 → parseFieldDescriptor (TX4 k).2.2.1 = some (tyX4 k) := by decide +kernel
def RX5 : String := "LineCites$Span"
def TX5 : u_T := fun k => match k with
  | 0 => ("LineCites$Span", "size", "I", false)
  | 1 => ("LineCites$Span", "least", "I", false)
  | _ => ("LineCites$Span", "greatest", "I", false)
def tyX5 : Nat → FieldType := fun k => match k with
  | 0 => .int
  | 1 => .int
  | _ => .int
abbrev wsX50 : List Cond := u_ws RX5 TX5 3
theorem nmX5 : ∀ a, a < 3 → ∀ b, b < 3 → a ≠ b → (TX5 a).2.1 ≠ (TX5 b).2.1 := by decide +kernel
theorem tyX5_ok : ∀ k, k < 3 → parseFieldDescriptor (TX5 k).2.2.1 = some (tyX5 k) := by decide +kernel
def RX6 : String := "LineCites$Spans"
def TX6 : u_T := fun k => match k with
  | 0 => ("LineCites$Spans", "sizes", "[I", true)
  | 1 => ("LineCites$Spans", "leasts", "[I", true)
  | 2 => ("LineCites$Spans", "greatests", "[I", true)
  | 3 => ("LineCites$Spans", "at", "I", false)
  | 4 => ("LineCites$Spans", "shiftFirst", "I", false)
  | 5 => ("LineCites$Spans", "shiftMany", "I", false)
  | 6 => ("LineCites$Spans", "shiftLow", "I", false)
  | _ => ("LineCites$Spans", "shiftHigh", "I", false)
def tyX6 : Nat → FieldType := fun k => match k with
  | 0 => .array .int
  | 1 => .array .int
  | 2 => .array .int
  | 3 => .int
  | 4 => .int
  | 5 => .int
  | 6 => .int
  | _ => .int
abbrev wsX60 : List Cond := u_ws RX6 TX6 8
theorem nmX6 : ∀ a, a < 8 → ∀ b, b < 8 → a ≠ b → (TX6 a).2.1 ≠ (TX6 b).2.1 := by decide +kernel
theorem tyX6_ok : ∀ k, k < 8 → parseFieldDescriptor (TX6 k).2.2.1 = some (tyX6 k) := by decide +kernel
def RX7 : String := "LineCites$Tape"
def TX7 : u_T := fun k => match k with
  | 0 => ("LineCites$Tape", "bytes", "[B", true)
  | 1 => ("LineCites$Tape", "size", "I", false)
  | _ => ("LineCites$Tape", "latestFault", "I", false)
def tyX7 : Nat → FieldType := fun k => match k with
  | 0 => .array .byte
  | 1 => .int
  | _ => .int
abbrev wsX70 : List Cond := u_ws RX7 TX7 3
theorem nmX7 : ∀ a, a < 3 → ∀ b, b < 3 → a ≠ b → (TX7 a).2.1 ≠ (TX7 b).2.1 := by decide +kernel
theorem tyX7_ok : ∀ k, k < 3 → parseFieldDescriptor (TX7 k).2.2.1 = some (tyX7 k) := by decide +kernel
def RX8 : String := "LineCites$Work"
def TX8 : u_T := fun k => match k with
  | 0 => ("LineCites$Work", "stretchCounts", "[I", true)
  | 1 => ("LineCites$Work", "stretchParts", "[I", true)
  | 2 => ("LineCites$Work", "citedParts", "[I", true)
  | 3 => ("LineCites$Work", "seenNumbers", "[I", true)
  | 4 => ("LineCites$Work", "seenLines", "[I", true)
  | 5 => ("LineCites$Work", "lines", "I", false)
  | 6 => ("LineCites$Work", "editions", "I", false)
  | _ => ("LineCites$Work", "seen", "I", false)
def tyX8 : Nat → FieldType := fun k => match k with
  | 0 => .array .int
  | 1 => .array .int
  | 2 => .array .int
  | 3 => .array .int
  | 4 => .array .int
  | 5 => .int
  | 6 => .int
  | _ => .int
abbrev wsX80 : List Cond := u_ws RX8 TX8 8
theorem nmX8 : ∀ a, a < 8 → ∀ b, b < 8 → a ≠ b → (TX8 a).2.1 ≠ (TX8 b).2.1 := by decide +kernel
theorem tyX8_ok : ∀ k, k < 8 → parseFieldDescriptor (TX8 k).2.2.1 = some (tyX8 k) := by decide +kernel
def RX9 : String := "LineCites"
def TX9 : u_T := fun k => match k with
  | 0 => ("LineCites", "tape", "LLineCites$Tape;", true)
  | 1 => ("LineCites", "now", "LLineCites$Work;", true)
  | 2 => ("LineCites", "draft", "LLineCites$Work;", true)
  | 3 => ("LineCites", "reader", "LLineCites$Reader;", true)
  | 4 => ("LineCites", "acts", "LLineCites$Acts;", true)
  | 5 => ("LineCites", "images", "[LLineCites$Image;", true)
  | 6 => ("LineCites", "one", "LLineCites$Numbering;", true)
  | 7 => ("LineCites", "other", "LLineCites$Numbering;", true)
  | 8 => ("LineCites", "third", "LLineCites$Numbering;", true)
  | 9 => ("LineCites", "spans", "LLineCites$Spans;", true)
  | 10 => ("LineCites", "back", "LLineCites$Spans;", true)
  | 11 => ("LineCites", "span", "LLineCites$Span;", true)
  | 12 => ("LineCites", "middle", "LLineCites$NumberSet;", true)
  | _ => ("LineCites", "reached", "LLineCites$NumberSet;", true)
def tyX9 : Nat → FieldType := fun k => match k with
  | 0 => .object "LineCites$Tape"
  | 1 => .object "LineCites$Work"
  | 2 => .object "LineCites$Work"
  | 3 => .object "LineCites$Reader"
  | 4 => .object "LineCites$Acts"
  | 5 => .array (.object "LineCites$Image")
  | 6 => .object "LineCites$Numbering"
  | 7 => .object "LineCites$Numbering"
  | 8 => .object "LineCites$Numbering"
  | 9 => .object "LineCites$Spans"
  | 10 => .object "LineCites$Spans"
  | 11 => .object "LineCites$Span"
  | 12 => .object "LineCites$NumberSet"
  | _ => .object "LineCites$NumberSet"
abbrev wsX90 : List Cond := u_ws RX9 TX9 14
theorem nmX9 : ∀ a, a < 14 → ∀ b, b < 14 → a ≠ b → (TX9 a).2.1 ≠ (TX9 b).2.1 := by decide +kernel
theorem tyX9_ok : ∀ k, k < 14 → parseFieldDescriptor (TX9 k).2.2.1 = some (tyX9 k) := by decide +kernel
def RX10 : String := "LineCitesModel"
def TX10 : u_T := fun k => match k with
  | 0 => ("LineCitesModel", "now", "[I", true)
  | 1 => ("LineCitesModel", "draft", "[I", true)
  | 2 => ("LineCitesModel", "past", "[I", true)
  | 3 => ("LineCitesModel", "acts", "I", false)
  | 4 => ("LineCitesModel", "images", "[I", true)
  | 5 => ("LineCitesModel", "kept", "[Z", true)
  | 6 => ("LineCitesModel", "tape", "[I", true)
  | 7 => ("LineCitesModel", "taped", "I", false)
  | 8 => ("LineCitesModel", "at", "I", false)
  | 9 => ("LineCitesModel", "start", "I", false)
  | 10 => ("LineCitesModel", "token", "I", false)
  | 11 => ("LineCitesModel", "value", "I", false)
  | 12 => ("LineCitesModel", "fault", "I", false)
  | 13 => ("LineCitesModel", "place", "I", false)
  | 14 => ("LineCitesModel", "latest", "I", false)
  | 15 => ("LineCitesModel", "low", "[I", true)
  | 16 => ("LineCitesModel", "high", "[I", true)
  | 17 => ("LineCitesModel", "first", "[Z", true)
  | 18 => ("LineCitesModel", "second", "[Z", true)
  | 19 => ("LineCitesModel", "lines", "[Z", true)
  | 20 => ("LineCitesModel", "others", "[Z", true)
  | 21 => ("LineCitesModel", "shiftFirst", "I", false)
  | 22 => ("LineCitesModel", "shiftMany", "I", false)
  | 23 => ("LineCitesModel", "shiftLow", "I", false)
  | _ => ("LineCitesModel", "shiftHigh", "I", false)
def tyX10 : Nat → FieldType := fun k => match k with
  | 0 => .array .int
  | 1 => .array .int
  | 2 => .array .int
  | 3 => .int
  | 4 => .array .int
  | 5 => .array .boolean
  | 6 => .array .int
  | 7 => .int
  | 8 => .int
  | 9 => .int
  | 10 => .int
  | 11 => .int
  | 12 => .int
  | 13 => .int
  | 14 => .int
  | 15 => .array .int
  | 16 => .array .int
  | 17 => .array .boolean
  | 18 => .array .boolean
  | 19 => .array .boolean
  | 20 => .array .boolean
  | 21 => .int
  | 22 => .int
  | 23 => .int
  | _ => .int
abbrev wsX100 : List Cond := u_ws RX10 TX10 25
theorem nmX10 : ∀ a, a < 25 → ∀ b, b < 25 → a ≠ b → (TX10 a).2.1 ≠ (TX10 b).2.1 := by decide +kernel
theorem tyX10_ok : ∀ k, k < 25 → parseFieldDescriptor (TX10 k).2.2.1 = some (tyX10 k) := by decide +kernel
abbrev cX0_init : ByteArray := prog_2_method_1_code
def yX0_init : MethodName := ⟨RX0, "<init>", "()V"⟩
abbrev cX0_size : ByteArray := prog_2_method_2_code
def yX0_size : MethodName := ⟨RX0, "size", "()I"⟩
abbrev cX0_forget : ByteArray := prog_2_method_3_code
def yX0_forget : MethodName := ⟨RX0, "forget", "()V"⟩
abbrev cX0_keep : ByteArray := prog_2_method_4_code
def yX0_keep : MethodName := ⟨RX0, "keep", "(LLineCites$Work;)V"⟩
abbrev cX0_takeBack : ByteArray := prog_2_method_5_code
def yX0_takeBack : MethodName := ⟨RX0, "takeBack", "(LLineCites$Work;)Z"⟩
abbrev cX1_init : ByteArray := prog_3_method_1_code
def yX1_init : MethodName := ⟨RX1, "<init>", "()V"⟩
abbrev cX2_init : ByteArray := prog_4_method_1_code
def yX2_init : MethodName := ⟨RX2, "<init>", "()V"⟩
abbrev cX2_clear : ByteArray := prog_4_method_2_code
def yX2_clear : MethodName := ⟨RX2, "clear", "()V"⟩
abbrev cX2_put : ByteArray := prog_4_method_3_code
def yX2_put : MethodName := ⟨RX2, "put", "(I)V"⟩
abbrev cX2_putNumbers : ByteArray := prog_4_method_4_code
def yX2_putNumbers : MethodName := ⟨RX2, "putNumbers", "(ILLineCites$Numbering;)V"⟩
abbrev cX2_has : ByteArray := prog_4_method_5_code
def yX2_has : MethodName := ⟨RX2, "has", "(I)Z"⟩
abbrev cX2_answer : ByteArray := prog_4_method_6_code
def yX2_answer : MethodName := ⟨RX2, "answer", "(I)I"⟩
abbrev cX2_gatherOf : ByteArray := prog_4_method_7_code
def yX2_gatherOf : MethodName := ⟨RX2, "gatherOf", "(ILLineCites$Numbering;LLineCites$Numbering;)V"⟩
abbrev cX2_gatherOfSet : ByteArray := prog_4_method_8_code
def yX2_gatherOfSet : MethodName := ⟨RX2, "gatherOfSet", "(LLineCites$NumberSet;LLineCites$Numbering;LLineCites$Numbering;)V"⟩
abbrev cX3_init : ByteArray := prog_5_method_1_code
def yX3_init : MethodName := ⟨RX3, "<init>", "()V"⟩
abbrev cX3_fill : ByteArray := prog_5_method_2_code
def yX3_fill : MethodName := ⟨RX3, "fill", "(LLineCites$Work;I)V"⟩
abbrev cX3_fillStretch : ByteArray := prog_5_method_3_code
def yX3_fillStretch : MethodName := ⟨RX3, "fillStretch", "(IIII)V"⟩
abbrev cX3_lines : ByteArray := prog_5_method_4_code
def yX3_lines : MethodName := ⟨RX3, "lines", "()I"⟩
abbrev cX3_low : ByteArray := prog_5_method_5_code
def yX3_low : MethodName := ⟨RX3, "low", "(I)I"⟩
abbrev cX3_high : ByteArray := prog_5_method_6_code
def yX3_high : MethodName := ⟨RX3, "high", "(I)I"⟩
abbrev cX3_isNumbered : ByteArray := prog_5_method_7_code
def yX3_isNumbered : MethodName := ⟨RX3, "isNumbered", "(I)Z"⟩
abbrev cX3_has : ByteArray := prog_5_method_8_code
def yX3_has : MethodName := ⟨RX3, "has", "(III)Z"⟩
abbrev cX3_numberedLines : ByteArray := prog_5_method_9_code
def yX3_numberedLines : MethodName := ⟨RX3, "numberedLines", "()I"⟩
abbrev cX3_spanLines : ByteArray := prog_5_method_10_code
def yX3_spanLines : MethodName := ⟨RX3, "spanLines", "(IILLineCites$Span;)V"⟩
abbrev cX3_lineAmong : ByteArray := prog_5_method_11_code
def yX3_lineAmong : MethodName := ⟨RX3, "lineAmong", "(II)I"⟩
abbrev cX3_beginsBareRow : ByteArray := prog_5_method_12_code
def yX3_beginsBareRow : MethodName := ⟨RX3, "beginsBareRow", "(I)Z"⟩
abbrev cX3_bareLinesFrom : ByteArray := prog_5_method_13_code
def yX3_bareLinesFrom : MethodName := ⟨RX3, "bareLinesFrom", "(I)I"⟩
abbrev cX4_init : ByteArray := prog_6_method_1_code
def yX4_init : MethodName := ⟨RX4, "<init>", "(LLineCites$Tape;LLineCites$Work;)V"⟩
abbrev cX4_faultNumber : ByteArray := prog_6_method_2_code
def yX4_faultNumber : MethodName := ⟨RX4, "faultNumber", "()I"⟩
abbrev cX4_faultPlace : ByteArray := prog_6_method_3_code
def yX4_faultPlace : MethodName := ⟨RX4, "faultPlace", "()I"⟩
abbrev cX4_readHead : ByteArray := prog_6_method_4_code
def yX4_readHead : MethodName := ⟨RX4, "readHead", "()Z"⟩
abbrev cX4_readEditions : ByteArray := prog_6_method_5_code
def yX4_readEditions : MethodName := ⟨RX4, "readEditions", "()Z"⟩
abbrev cX4_readEdition : ByteArray := prog_6_method_6_code
def yX4_readEdition : MethodName := ⟨RX4, "readEdition", "()Z"⟩
abbrev cX4_readStretch : ByteArray := prog_6_method_7_code
def yX4_readStretch : MethodName := ⟨RX4, "readStretch", "()Z"⟩
abbrev cX4_kindOf : ByteArray := prog_6_method_8_code
def yX4_kindOf : MethodName := ⟨RX4, "kindOf", "(I)I"⟩
abbrev cX4_expect : ByteArray := prog_6_method_9_code
def yX4_expect : MethodName := ⟨RX4, "expect", "(I)Z"⟩
abbrev cX4_refuse : ByteArray := prog_6_method_10_code
def yX4_refuse : MethodName := ⟨RX4, "refuse", "(I)Z"⟩
abbrev cX4_step : ByteArray := prog_6_method_11_code
def yX4_step : MethodName := ⟨RX4, "step", "()V"⟩
abbrev cX4_stepOverFigures : ByteArray := prog_6_method_12_code
def yX4_stepOverFigures : MethodName := ⟨RX4, "stepOverFigures", "()V"⟩
abbrev cX4_isFigure : ByteArray := prog_6_method_13_code
def yX4_isFigure : MethodName := ⟨RX4, "isFigure", "(I)Z"⟩
abbrev cX5_init : ByteArray := prog_7_method_1_code
def yX5_init : MethodName := ⟨RX5, "<init>", "()V"⟩
abbrev cX5_clear : ByteArray := prog_7_method_2_code
def yX5_clear : MethodName := ⟨RX5, "clear", "()V"⟩
abbrev cX5_put : ByteArray := prog_7_method_3_code
def yX5_put : MethodName := ⟨RX5, "put", "(I)V"⟩
abbrev cX5_size : ByteArray := prog_7_method_4_code
def yX5_size : MethodName := ⟨RX5, "size", "()I"⟩
abbrev cX5_isEmpty : ByteArray := prog_7_method_5_code
def yX5_isEmpty : MethodName := ⟨RX5, "isEmpty", "()Z"⟩
abbrev cX5_least : ByteArray := prog_7_method_6_code
def yX5_least : MethodName := ⟨RX5, "least", "()I"⟩
abbrev cX5_greatest : ByteArray := prog_7_method_7_code
def yX5_greatest : MethodName := ⟨RX5, "greatest", "()I"⟩
abbrev cX5_isSideBySide : ByteArray := prog_7_method_8_code
def yX5_isSideBySide : MethodName := ⟨RX5, "isSideBySide", "()Z"⟩
abbrev cX5_answer : ByteArray := prog_7_method_9_code
def yX5_answer : MethodName := ⟨RX5, "answer", "(I)I"⟩
abbrev cX6_init : ByteArray := prog_8_method_1_code
def yX6_init : MethodName := ⟨RX6, "<init>", "()V"⟩
abbrev cX6_isPlace : ByteArray := prog_8_method_2_code
def yX6_isPlace : MethodName := ⟨RX6, "isPlace", "(I)Z"⟩
abbrev cX6_clear : ByteArray := prog_8_method_3_code
def yX6_clear : MethodName := ⟨RX6, "clear", "()V"⟩
abbrev cX6_put : ByteArray := prog_8_method_4_code
def yX6_put : MethodName := ⟨RX6, "put", "(II)V"⟩
abbrev cX6_fillWithLines : ByteArray := prog_8_method_5_code
def yX6_fillWithLines : MethodName := ⟨RX6, "fillWithLines", "(LLineCites$Numbering;)V"⟩
abbrev cX6_fillWithNumbers : ByteArray := prog_8_method_6_code
def yX6_fillWithNumbers : MethodName := ⟨RX6, "fillWithNumbers", "(LLineCites$Numbering;LLineCites$Numbering;)V"⟩
abbrev cX6_fillThrough : ByteArray := prog_8_method_7_code
def yX6_fillThrough : MethodName := ⟨RX6, "fillThrough", "(LLineCites$Numbering;LLineCites$Numbering;LLineCites$Spans;)V"⟩
abbrev cX6_putSpan : ByteArray := prog_8_method_8_code
def yX6_putSpan : MethodName := ⟨RX6, "putSpan", "(ILLineCites$Spans;I)V"⟩
abbrev cX6_hasSome : ByteArray := prog_8_method_9_code
def yX6_hasSome : MethodName := ⟨RX6, "hasSome", "(I)Z"⟩
abbrev cX6_numbers : ByteArray := prog_8_method_10_code
def yX6_numbers : MethodName := ⟨RX6, "numbers", "()I"⟩
abbrev cX6_spanNumbers : ByteArray := prog_8_method_11_code
def yX6_spanNumbers : MethodName := ⟨RX6, "spanNumbers", "(LLineCites$Span;)V"⟩
abbrev cX6_ofSeveral : ByteArray := prog_8_method_12_code
def yX6_ofSeveral : MethodName := ⟨RX6, "ofSeveral", "()I"⟩
abbrev cX6_scattered : ByteArray := prog_8_method_13_code
def yX6_scattered : MethodName := ⟨RX6, "scattered", "()I"⟩
abbrev cX6_ofDoubt : ByteArray := prog_8_method_14_code
def yX6_ofDoubt : MethodName := ⟨RX6, "ofDoubt", "(I)I"⟩
abbrev cX6_beginShifts : ByteArray := prog_8_method_15_code
def yX6_beginShifts : MethodName := ⟨RX6, "beginShifts", "()V"⟩
abbrev cX6_nextShift : ByteArray := prog_8_method_16_code
def yX6_nextShift : MethodName := ⟨RX6, "nextShift", "()Z"⟩
abbrev cX6_joinsShift : ByteArray := prog_8_method_17_code
def yX6_joinsShift : MethodName := ⟨RX6, "joinsShift", "(I)Z"⟩
abbrev cX6_shiftAnswer : ByteArray := prog_8_method_18_code
def yX6_shiftAnswer : MethodName := ⟨RX6, "shiftAnswer", "(I)I"⟩
abbrev cX7_init : ByteArray := prog_9_method_1_code
def yX7_init : MethodName := ⟨RX7, "<init>", "()V"⟩
abbrev cX7_put : ByteArray := prog_9_method_2_code
def yX7_put : MethodName := ⟨RX7, "put", "(I)Z"⟩
abbrev cX7_size : ByteArray := prog_9_method_3_code
def yX7_size : MethodName := ⟨RX7, "size", "()I"⟩
abbrev cX7_byteAt : ByteArray := prog_9_method_4_code
def yX7_byteAt : MethodName := ⟨RX7, "byteAt", "(I)I"⟩
abbrev cX7_empty : ByteArray := prog_9_method_5_code
def yX7_empty : MethodName := ⟨RX7, "empty", "()V"⟩
abbrev cX7_latestFault : ByteArray := prog_9_method_6_code
def yX7_latestFault : MethodName := ⟨RX7, "latestFault", "()I"⟩
abbrev cX7_noteFault : ByteArray := prog_9_method_7_code
def yX7_noteFault : MethodName := ⟨RX7, "noteFault", "(I)V"⟩
abbrev cX7_take : ByteArray := prog_9_method_8_code
def yX7_take : MethodName := ⟨RX7, "take", "(LLineCites$Tape;)V"⟩
abbrev cX8_init : ByteArray := prog_10_method_1_code
def yX8_init : MethodName := ⟨RX8, "<init>", "()V"⟩
abbrev cX8_take : ByteArray := prog_10_method_2_code
def yX8_take : MethodName := ⟨RX8, "take", "(LLineCites$Work;)V"⟩
abbrev cX8_begin : ByteArray := prog_10_method_3_code
def yX8_begin : MethodName := ⟨RX8, "begin", "(I)V"⟩
abbrev cX8_lines : ByteArray := prog_10_method_4_code
def yX8_lines : MethodName := ⟨RX8, "lines", "()I"⟩
abbrev cX8_hasLine : ByteArray := prog_10_method_5_code
def yX8_hasLine : MethodName := ⟨RX8, "hasLine", "(I)Z"⟩
abbrev cX8_editions : ByteArray := prog_10_method_6_code
def yX8_editions : MethodName := ⟨RX8, "editions", "()I"⟩
abbrev cX8_hasEdition : ByteArray := prog_10_method_7_code
def yX8_hasEdition : MethodName := ⟨RX8, "hasEdition", "(I)Z"⟩
abbrev cX8_putEdition : ByteArray := prog_10_method_8_code
def yX8_putEdition : MethodName := ⟨RX8, "putEdition", "()Z"⟩
abbrev cX8_stretchesOf : ByteArray := prog_10_method_9_code
def yX8_stretchesOf : MethodName := ⟨RX8, "stretchesOf", "(I)I"⟩
abbrev cX8_stretches : ByteArray := prog_10_method_10_code
def yX8_stretches : MethodName := ⟨RX8, "stretches", "()I"⟩
abbrev cX8_hasStretch : ByteArray := prog_10_method_11_code
def yX8_hasStretch : MethodName := ⟨RX8, "hasStretch", "(II)Z"⟩
abbrev cX8_placeOf : ByteArray := prog_10_method_12_code
def yX8_placeOf : MethodName := ⟨RX8, "placeOf", "(III)I"⟩
abbrev cX8_part : ByteArray := prog_10_method_13_code
def yX8_part : MethodName := ⟨RX8, "part", "(III)I"⟩
abbrev cX8_setPart : ByteArray := prog_10_method_14_code
def yX8_setPart : MethodName := ⟨RX8, "setPart", "(IIII)V"⟩
abbrev cX8_putStretch : ByteArray := prog_10_method_15_code
def yX8_putStretch : MethodName := ⟨RX8, "putStretch", "(IIIII)V"⟩
abbrev cX8_removeStretch : ByteArray := prog_10_method_16_code
def yX8_removeStretch : MethodName := ⟨RX8, "removeStretch", "(II)V"⟩
abbrev cX8_stretchFits : ByteArray := prog_10_method_17_code
def yX8_stretchFits : MethodName := ⟨RX8, "stretchFits", "(IIIIII)Z"⟩
abbrev cX8_fromFits : ByteArray := prog_10_method_18_code
def yX8_fromFits : MethodName := ⟨RX8, "fromFits", "(III)Z"⟩
abbrev cX8_manyFits : ByteArray := prog_10_method_19_code
def yX8_manyFits : MethodName := ⟨RX8, "manyFits", "(IIII)Z"⟩
abbrev cX8_firstFits : ByteArray := prog_10_method_20_code
def yX8_firstFits : MethodName := ⟨RX8, "firstFits", "(III)Z"⟩
abbrev cX8_isFree : ByteArray := prog_10_method_21_code
def yX8_isFree : MethodName := ⟨RX8, "isFree", "(IIII)Z"⟩
abbrev cX8_citedPart : ByteArray := prog_10_method_22_code
def yX8_citedPart : MethodName := ⟨RX8, "citedPart", "(II)I"⟩
abbrev cX8_setCitedPart : ByteArray := prog_10_method_23_code
def yX8_setCitedPart : MethodName := ⟨RX8, "setCitedPart", "(III)V"⟩
abbrev cX8_hasCitation : ByteArray := prog_10_method_24_code
def yX8_hasCitation : MethodName := ⟨RX8, "hasCitation", "(I)Z"⟩
abbrev cX8_putCitation : ByteArray := prog_10_method_25_code
def yX8_putCitation : MethodName := ⟨RX8, "putCitation", "(IIIII)V"⟩
abbrev cX8_removeCitation : ByteArray := prog_10_method_26_code
def yX8_removeCitation : MethodName := ⟨RX8, "removeCitation", "(I)V"⟩
abbrev cX8_citations : ByteArray := prog_10_method_27_code
def yX8_citations : MethodName := ⟨RX8, "citations", "()I"⟩
abbrev cX8_seen : ByteArray := prog_10_method_28_code
def yX8_seen : MethodName := ⟨RX8, "seen", "()I"⟩
abbrev cX8_putSeen : ByteArray := prog_10_method_29_code
def yX8_putSeen : MethodName := ⟨RX8, "putSeen", "(II)V"⟩
abbrev cX8_seenNumber : ByteArray := prog_10_method_30_code
def yX8_seenNumber : MethodName := ⟨RX8, "seenNumber", "(I)I"⟩
abbrev cX8_seenLine : ByteArray := prog_10_method_31_code
def yX8_seenLine : MethodName := ⟨RX8, "seenLine", "(I)I"⟩
abbrev cX9_init : ByteArray := prog_1_method_1_code
def yX9_init : MethodName := ⟨RX9, "<init>", "()V"⟩
abbrev cX9_feed : ByteArray := prog_1_method_2_code
def yX9_feed : MethodName := ⟨RX9, "feed", "(I)I"⟩
abbrev cX9_work : ByteArray := prog_1_method_3_code
def yX9_work : MethodName := ⟨RX9, "work", "()I"⟩
abbrev cX9_fault : ByteArray := prog_1_method_4_code
def yX9_fault : MethodName := ⟨RX9, "fault", "()I"⟩
abbrev cX9_undo : ByteArray := prog_1_method_5_code
def yX9_undo : MethodName := ⟨RX9, "undo", "()I"⟩
abbrev cX9_add : ByteArray := prog_1_method_6_code
def yX9_add : MethodName := ⟨RX9, "add", "(IIIII)I"⟩
abbrev cX9_drop : ByteArray := prog_1_method_7_code
def yX9_drop : MethodName := ⟨RX9, "drop", "(II)I"⟩
abbrev cX9_alter : ByteArray := prog_1_method_8_code
def yX9_alter : MethodName := ⟨RX9, "alter", "(IIII)I"⟩
abbrev cX9_cite : ByteArray := prog_1_method_9_code
def yX9_cite : MethodName := ⟨RX9, "cite", "(IIIII)I"⟩
abbrev cX9_strike : ByteArray := prog_1_method_10_code
def yX9_strike : MethodName := ⟨RX9, "strike", "(I)I"⟩
abbrev cX9_see : ByteArray := prog_1_method_11_code
def yX9_see : MethodName := ⟨RX9, "see", "(II)I"⟩
abbrev cX9_stretch : ByteArray := prog_1_method_12_code
def yX9_stretch : MethodName := ⟨RX9, "stretch", "(III)I"⟩
abbrev cX9_as : ByteArray := prog_1_method_13_code
def yX9_as : MethodName := ⟨RX9, "as", "(III)I"⟩
abbrev cX9_edition : ByteArray := prog_1_method_14_code
def yX9_edition : MethodName := ⟨RX9, "edition", "(II)I"⟩
abbrev cX9_number : ByteArray := prog_1_method_15_code
def yX9_number : MethodName := ⟨RX9, "number", "(III)I"⟩
abbrev cX9_meant : ByteArray := prog_1_method_16_code
def yX9_meant : MethodName := ⟨RX9, "meant", "(III)I"⟩
abbrev cX9_left : ByteArray := prog_1_method_17_code
def yX9_left : MethodName := ⟨RX9, "left", "(III)I"⟩
abbrev cX9_in : ByteArray := prog_1_method_18_code
def yX9_in : MethodName := ⟨RX9, "in", "(IIII)I"⟩
abbrev cX9_through : ByteArray := prog_1_method_19_code
def yX9_through : MethodName := ⟨RX9, "through", "(IIIII)I"⟩
abbrev cX9_shift : ByteArray := prog_1_method_20_code
def yX9_shift : MethodName := ⟨RX9, "shift", "(IIII)I"⟩
abbrev cX9_table : ByteArray := prog_1_method_21_code
def yX9_table : MethodName := ⟨RX9, "table", "(III)I"⟩
abbrev cX9_share : ByteArray := prog_1_method_22_code
def yX9_share : MethodName := ⟨RX9, "share", "(II)I"⟩
abbrev cX9_citation : ByteArray := prog_1_method_23_code
def yX9_citation : MethodName := ⟨RX9, "citation", "(II)I"⟩
abbrev cX9_turned : ByteArray := prog_1_method_24_code
def yX9_turned : MethodName := ⟨RX9, "turned", "(III)I"⟩
abbrev cX9_meet : ByteArray := prog_1_method_25_code
def yX9_meet : MethodName := ⟨RX9, "meet", "(III)I"⟩
abbrev cX9_could : ByteArray := prog_1_method_26_code
def yX9_could : MethodName := ⟨RX9, "could", "(II)I"⟩
abbrev cX9_score : ByteArray := prog_1_method_27_code
def yX9_score : MethodName := ⟨RX9, "score", "(II)I"⟩
abbrev cX9_best : ByteArray := prog_1_method_28_code
def yX9_best : MethodName := ⟨RX9, "best", "()I"⟩
abbrev cX9_image : ByteArray := prog_1_method_29_code
def yX9_image : MethodName := ⟨RX9, "image", "(I)I"⟩
abbrev cX9_restore : ByteArray := prog_1_method_30_code
def yX9_restore : MethodName := ⟨RX9, "restore", "(I)I"⟩
abbrev cX9_count : ByteArray := prog_1_method_31_code
def yX9_count : MethodName := ⟨RX9, "count", "(I)I"⟩
abbrev cX9_isNumber : ByteArray := prog_1_method_32_code
def yX9_isNumber : MethodName := ⟨RX9, "isNumber", "(I)Z"⟩
abbrev cX9_thousandths : ByteArray := prog_1_method_33_code
def yX9_thousandths : MethodName := ⟨RX9, "thousandths", "(II)I"⟩
abbrev cX9_isOfKind : ByteArray := prog_1_method_34_code
def yX9_isOfKind : MethodName := ⟨RX9, "isOfKind", "(II)Z"⟩
abbrev cX9_lowOf : ByteArray := prog_1_method_35_code
def yX9_lowOf : MethodName := ⟨RX9, "lowOf", "(IIII)I"⟩
abbrev cX9_highOf : ByteArray := prog_1_method_36_code
def yX9_highOf : MethodName := ⟨RX9, "highOf", "(IIII)I"⟩
abbrev cX9_greatestOf : ByteArray := prog_1_method_37_code
def yX9_greatestOf : MethodName := ⟨RX9, "greatestOf", "(III)I"⟩
abbrev cX9_fillCited : ByteArray := prog_1_method_38_code
def yX9_fillCited : MethodName := ⟨RX9, "fillCited", "(LLineCites$Numbering;I)V"⟩
abbrev cX9_isCited : ByteArray := prog_1_method_39_code
def yX9_isCited : MethodName := ⟨RX9, "isCited", "(LLineCites$Numbering;II)Z"⟩
abbrev cX9_spanLinesOf : ByteArray := prog_1_method_40_code
def yX9_spanLinesOf : MethodName := ⟨RX9, "spanLinesOf", "(I)V"⟩
abbrev cX9_isSameLines : ByteArray := prog_1_method_41_code
def yX9_isSameLines : MethodName := ⟨RX9, "isSameLines", "(IIII)Z"⟩
abbrev cX9_scoreOf : ByteArray := prog_1_method_42_code
def yX9_scoreOf : MethodName := ⟨RX9, "scoreOf", "(I)I"⟩
abbrev cX10_init : ByteArray := prog_12_method_1_code
def yX10_init : MethodName := ⟨RX10, "<init>", "()V"⟩
abbrev cX10_in0 : ByteArray := prog_12_method_3_code
def yX10_in0 : MethodName := ⟨RX10, "in0", "(JJJ)Z"⟩
abbrev cX10_copies : ByteArray := prog_12_method_4_code
def yX10_copies : MethodName := ⟨RX10, "copies", "([II[II)V"⟩
abbrev cX10_isWork : ByteArray := prog_12_method_5_code
def yX10_isWork : MethodName := ⟨RX10, "isWork", "()Z"⟩
abbrev cX10_isEdition : ByteArray := prog_12_method_6_code
def yX10_isEdition : MethodName := ⟨RX10, "isEdition", "(I)Z"⟩
abbrev cX10_isLine : ByteArray := prog_12_method_7_code
def yX10_isLine : MethodName := ⟨RX10, "isLine", "(I)Z"⟩
abbrev cX10_isStretch : ByteArray := prog_12_method_8_code
def yX10_isStretch : MethodName := ⟨RX10, "isStretch", "(II)Z"⟩
abbrev cX10_isNumber : ByteArray := prog_12_method_9_code
def yX10_isNumber : MethodName := ⟨RX10, "isNumber", "(I)Z"⟩
abbrev cX10_of : ByteArray := prog_12_method_10_code
def yX10_of : MethodName := ⟨RX10, "of", "([IIII)I"⟩
abbrev cX10_greatest : ByteArray := prog_12_method_11_code
def yX10_greatest : MethodName := ⟨RX10, "greatest", "(III)I"⟩
abbrev cX10_stretchOf : ByteArray := prog_12_method_12_code
def yX10_stretchOf : MethodName := ⟨RX10, "stretchOf", "([IIII)I"⟩
abbrev cX10_lays : ByteArray := prog_12_method_13_code
def yX10_lays : MethodName := ⟨RX10, "lays", "()V"⟩
abbrev cX10_hasNumber : ByteArray := prog_12_method_14_code
def yX10_hasNumber : MethodName := ⟨RX10, "hasNumber", "(II)Z"⟩
abbrev cX10_isMeant : ByteArray := prog_12_method_15_code
def yX10_isMeant : MethodName := ⟨RX10, "isMeant", "(III)Z"⟩
abbrev cX10_clears : ByteArray := prog_12_method_16_code
def yX10_clears : MethodName := ⟨RX10, "clears", "([Z)V"⟩
abbrev cX10_comes : ByteArray := prog_12_method_17_code
def yX10_comes : MethodName := ⟨RX10, "comes", "(III[Z)V"⟩
abbrev cX10_manyIn : ByteArray := prog_12_method_18_code
def yX10_manyIn : MethodName := ⟨RX10, "manyIn", "([Z)I"⟩
abbrev cX10_leastOf : ByteArray := prog_12_method_19_code
def yX10_leastOf : MethodName := ⟨RX10, "leastOf", "([Z)I"⟩
abbrev cX10_greatestOf : ByteArray := prog_12_method_20_code
def yX10_greatestOf : MethodName := ⟨RX10, "greatestOf", "([Z)I"⟩
abbrev cX10_told : ByteArray := prog_12_method_21_code
def yX10_told : MethodName := ⟨RX10, "told", "([ZI)I"⟩
abbrev cX10_goes : ByteArray := prog_12_method_22_code
def yX10_goes : MethodName := ⟨RX10, "goes", "(IIII)V"⟩
abbrev cX10_byteAt : ByteArray := prog_12_method_23_code
def yX10_byteAt : MethodName := ⟨RX10, "byteAt", "(I)I"⟩
abbrev cX10_reads : ByteArray := prog_12_method_24_code
def yX10_reads : MethodName := ⟨RX10, "reads", "()V"⟩
abbrev cX10_bad : ByteArray := prog_12_method_25_code
def yX10_bad : MethodName := ⟨RX10, "bad", "(I)V"⟩
abbrev cX10_goesOn : ByteArray := prog_12_method_26_code
def yX10_goesOn : MethodName := ⟨RX10, "goesOn", "()V"⟩
abbrev cX10_isLetter : ByteArray := prog_12_method_27_code
def yX10_isLetter : MethodName := ⟨RX10, "isLetter", "(I)Z"⟩
abbrev cX10_sign : ByteArray := prog_12_method_28_code
def yX10_sign : MethodName := ⟨RX10, "sign", "(I)V"⟩
abbrev cX10_number : ByteArray := prog_12_method_29_code
def yX10_number : MethodName := ⟨RX10, "number", "(ZI)I"⟩
abbrev cX10_sort : ByteArray := prog_12_method_30_code
def yX10_sort : MethodName := ⟨RX10, "sort", "()I"⟩
abbrev cX10_isFrom : ByteArray := prog_12_method_31_code
def yX10_isFrom : MethodName := ⟨RX10, "isFrom", "([IIII)Z"⟩
abbrev cX10_isMany : ByteArray := prog_12_method_32_code
def yX10_isMany : MethodName := ⟨RX10, "isMany", "([IIIII)Z"⟩
abbrev cX10_isFirst : ByteArray := prog_12_method_33_code
def yX10_isFirst : MethodName := ⟨RX10, "isFirst", "(III)Z"⟩
abbrev cX10_readsStretch : ByteArray := prog_12_method_34_code
def yX10_readsStretch : MethodName := ⟨RX10, "readsStretch", "(I)V"⟩
abbrev cX10_puts : ByteArray := prog_12_method_35_code
def yX10_puts : MethodName := ⟨RX10, "puts", "([IIIIII)V"⟩
abbrev cX10_feed : ByteArray := prog_12_method_36_code
def yX10_feed : MethodName := ⟨RX10, "feed", "(I)I"⟩
abbrev cX10_readsEdition : ByteArray := prog_12_method_37_code
def yX10_readsEdition : MethodName := ⟨RX10, "readsEdition", "()V"⟩
abbrev cX10_work : ByteArray := prog_12_method_38_code
def yX10_work : MethodName := ⟨RX10, "work", "()I"⟩
abbrev cX10_fault : ByteArray := prog_12_method_39_code
def yX10_fault : MethodName := ⟨RX10, "fault", "()I"⟩
abbrev cX10_notes : ByteArray := prog_12_method_40_code
def yX10_notes : MethodName := ⟨RX10, "notes", "()V"⟩
abbrev cX10_undo : ByteArray := prog_12_method_41_code
def yX10_undo : MethodName := ⟨RX10, "undo", "()I"⟩
abbrev cX10_isGood : ByteArray := prog_12_method_42_code
def yX10_isGood : MethodName := ⟨RX10, "isGood", "(IIIIII)Z"⟩
abbrev cX10_add : ByteArray := prog_12_method_43_code
def yX10_add : MethodName := ⟨RX10, "add", "(IIIII)I"⟩
abbrev cX10_drop : ByteArray := prog_12_method_44_code
def yX10_drop : MethodName := ⟨RX10, "drop", "(II)I"⟩
abbrev cX10_alter : ByteArray := prog_12_method_45_code
def yX10_alter : MethodName := ⟨RX10, "alter", "(IIII)I"⟩
abbrev cX10_cited : ByteArray := prog_12_method_46_code
def yX10_cited : MethodName := ⟨RX10, "cited", "(II)I"⟩
abbrev cX10_isCitation : ByteArray := prog_12_method_47_code
def yX10_isCitation : MethodName := ⟨RX10, "isCitation", "(I)Z"⟩
abbrev cX10_cite : ByteArray := prog_12_method_48_code
def yX10_cite : MethodName := ⟨RX10, "cite", "(IIIII)I"⟩
abbrev cX10_citations : ByteArray := prog_12_method_49_code
def yX10_citations : MethodName := ⟨RX10, "citations", "()I"⟩
abbrev cX10_strike : ByteArray := prog_12_method_50_code
def yX10_strike : MethodName := ⟨RX10, "strike", "(I)I"⟩
abbrev cX10_see : ByteArray := prog_12_method_51_code
def yX10_see : MethodName := ⟨RX10, "see", "(II)I"⟩
abbrev cX10_stretch : ByteArray := prog_12_method_52_code
def yX10_stretch : MethodName := ⟨RX10, "stretch", "(III)I"⟩
abbrev cX10_as : ByteArray := prog_12_method_53_code
def yX10_as : MethodName := ⟨RX10, "as", "(III)I"⟩
abbrev cX10_laysNumbers : ByteArray := prog_12_method_54_code
def yX10_laysNumbers : MethodName := ⟨RX10, "laysNumbers", "(I[Z)V"⟩
abbrev cX10_linesWith : ByteArray := prog_12_method_55_code
def yX10_linesWith : MethodName := ⟨RX10, "linesWith", "(I)I"⟩
abbrev cX10_meantBy : ByteArray := prog_12_method_56_code
def yX10_meantBy : MethodName := ⟨RX10, "meantBy", "(III)I"⟩
abbrev cX10_numbersThat : ByteArray := prog_12_method_57_code
def yX10_numbersThat : MethodName := ⟨RX10, "numbersThat", "(II)I"⟩
abbrev cX10_edition : ByteArray := prog_12_method_58_code
def yX10_edition : MethodName := ⟨RX10, "edition", "(II)I"⟩
abbrev cX10_number_ : ByteArray := prog_12_method_59_code
def yX10_number_ : MethodName := ⟨RX10, "number", "(III)I"⟩
abbrev cX10_meant : ByteArray := prog_12_method_60_code
def yX10_meant : MethodName := ⟨RX10, "meant", "(III)I"⟩
abbrev cX10_left : ByteArray := prog_12_method_61_code
def yX10_left : MethodName := ⟨RX10, "left", "(III)I"⟩
abbrev cX10_in : ByteArray := prog_12_method_62_code
def yX10_in : MethodName := ⟨RX10, "in", "(IIII)I"⟩
abbrev cX10_through : ByteArray := prog_12_method_63_code
def yX10_through : MethodName := ⟨RX10, "through", "(IIIII)I"⟩
abbrev cX10_isMore : ByteArray := prog_12_method_64_code
def yX10_isMore : MethodName := ⟨RX10, "isMore", "(III)Z"⟩
abbrev cX10_toldShift : ByteArray := prog_12_method_65_code
def yX10_toldShift : MethodName := ⟨RX10, "toldShift", "(I)I"⟩
abbrev cX10_shift : ByteArray := prog_12_method_66_code
def yX10_shift : MethodName := ⟨RX10, "shift", "(IIII)I"⟩
abbrev cX10_table : ByteArray := prog_12_method_67_code
def yX10_table : MethodName := ⟨RX10, "table", "(III)I"⟩
abbrev cX10_thousandths : ByteArray := prog_12_method_68_code
def yX10_thousandths : MethodName := ⟨RX10, "thousandths", "(II)I"⟩
abbrev cX10_share : ByteArray := prog_12_method_69_code
def yX10_share : MethodName := ⟨RX10, "share", "(II)I"⟩
abbrev cX10_lastOf : ByteArray := prog_12_method_70_code
def yX10_lastOf : MethodName := ⟨RX10, "lastOf", "(I)I"⟩
abbrev cX10_laysSpan : ByteArray := prog_12_method_71_code
def yX10_laysSpan : MethodName := ⟨RX10, "laysSpan", "(III[Z)V"⟩
abbrev cX10_laysLines : ByteArray := prog_12_method_72_code
def yX10_laysLines : MethodName := ⟨RX10, "laysLines", "(II[Z)V"⟩
abbrev cX10_citation : ByteArray := prog_12_method_73_code
def yX10_citation : MethodName := ⟨RX10, "citation", "(II)I"⟩
abbrev cX10_turned : ByteArray := prog_12_method_74_code
def yX10_turned : MethodName := ⟨RX10, "turned", "(III)I"⟩
abbrev cX10_meet : ByteArray := prog_12_method_75_code
def yX10_meet : MethodName := ⟨RX10, "meet", "(III)I"⟩
abbrev cX10_could : ByteArray := prog_12_method_76_code
def yX10_could : MethodName := ⟨RX10, "could", "(II)I"⟩
abbrev cX10_scoreOf : ByteArray := prog_12_method_77_code
def yX10_scoreOf : MethodName := ⟨RX10, "scoreOf", "(I)I"⟩
abbrev cX10_score : ByteArray := prog_12_method_78_code
def yX10_score : MethodName := ⟨RX10, "score", "(II)I"⟩
abbrev cX10_best : ByteArray := prog_12_method_79_code
def yX10_best : MethodName := ⟨RX10, "best", "()I"⟩
abbrev cX10_image : ByteArray := prog_12_method_80_code
def yX10_image : MethodName := ⟨RX10, "image", "(I)I"⟩
abbrev cX10_restore : ByteArray := prog_12_method_81_code
def yX10_restore : MethodName := ⟨RX10, "restore", "(I)I"⟩
abbrev cX10_allStretches : ByteArray := prog_12_method_82_code
def yX10_allStretches : MethodName := ⟨RX10, "allStretches", "()I"⟩
abbrev cX10_count : ByteArray := prog_12_method_83_code
def yX10_count : MethodName := ⟨RX10, "count", "(I)I"⟩
def RL : String := "LineCitesLaw"
abbrev cL_law : ByteArray := code
abbrev vwCl : List vw_C := [(RX0, TX0, 3), (RX1, TX1, 2), (RX2, TX2, 3), (RX3, TX3, 3), (RX4, TX4, 7), (RX5, TX5, 3), (RX6, TX6, 8), (RX7, TX7, 3), (RX8, TX8, 8), (RX9, TX9, 14), (RX10, TX10, 25)]
end
section
/-! small rows: ints and longs as whole numbers, worlds that stay, answers by a range -/
theorem pw_lt {a b : Int32} {x y : Int} (h : a < b) (ha : a.toInt = x) (hb : b.toInt = y) : x < y := by subst ha; subst hb; exact Int32.lt_iff_toInt_lt.mp h
theorem pw_le {a b : Int32} {x y : Int} (h : a ≤ b) (ha : a.toInt = x) (hb : b.toInt = y) : x ≤ y := by subst ha; subst hb; exact Int32.le_iff_toInt_le.mp h
theorem pw_nlt {a b : Int32} {x y : Int} (h : ¬ a < b) (ha : a.toInt = x) (hb : b.toInt = y) : y ≤ x := by
  subst ha; subst hb
  exact Int.not_lt.mp (fun q => h (Int32.lt_iff_toInt_lt.mpr q))
theorem pw_nle {a b : Int32} {x y : Int} (h : ¬ a ≤ b) (ha : a.toInt = x) (hb : b.toInt = y) : y < x := by
  subst ha; subst hb
  exact Int.not_le.mp (fun q => h (Int32.le_iff_toInt_le.mpr q))
theorem pw_eq {a b : Int32} {x y : Int} (h : a = b) (ha : a.toInt = x) (hb : b.toInt = y) : x = y := by subst ha; subst hb; rw [h]
theorem pw_ne {a b : Int32} {x y : Int} (h : ¬ a = b) (ha : a.toInt = x) (hb : b.toInt = y) : x ≠ y := by
  subst ha; subst hb
  exact fun q => h (Int32.toInt_inj.mp q)
theorem pw_l64 {a b : Int64} : a < b ↔ a.toInt < b.toInt := Int64.lt_iff_toInt_lt
theorem pw_lc {x y : Int64} : (lg_cmp x y = 1 ∧ y.toInt < x.toInt) ∨ (lg_cmp x y = 0 ∧ x.toInt = y.toInt) ∨ (lg_cmp x y = -1 ∧ x.toInt < y.toInt) := by
  by_cases h1 : y < x
  · exact Or.inl ⟨by simp [lg_cmp, h1], Int64.lt_iff_toInt_lt.mp h1⟩
  · by_cases h2 : x = y
    · subst h2
      exact Or.inr (Or.inl ⟨by simp [lg_cmp], rfl⟩)
    · refine Or.inr (Or.inr ⟨by simp [lg_cmp, h1, h2], ?_⟩)
      have h3 : ¬ y.toInt < x.toInt := fun q => h1 (Int64.lt_iff_toInt_lt.mpr q)
      have h4 : ¬ x.toInt = y.toInt := fun q => h2 (Int64.toInt_inj.mp q)
      omega
theorem pw_lc_lt {x y : Int64} (h : lg_cmp x y < 0) : x.toInt < y.toInt := by
  rcases @pw_lc x y with ⟨e, q⟩ | ⟨e, q⟩ | ⟨e, q⟩
  · rw [e] at h; exact absurd h (by decide)
  · rw [e] at h; exact absurd h (by decide)
  · exact q
theorem pw_lc_nlt {x y : Int64} (h : ¬ lg_cmp x y < 0) : y.toInt ≤ x.toInt := by
  rcases @pw_lc x y with ⟨e, q⟩ | ⟨e, q⟩ | ⟨e, q⟩
  · omega
  · omega
  · rw [e] at h; exact absurd (by decide) h
theorem pw_lc_gt {x y : Int64} (h : 0 < lg_cmp x y) : y.toInt < x.toInt := by
  rcases @pw_lc x y with ⟨e, q⟩ | ⟨e, q⟩ | ⟨e, q⟩
  · exact q
  · rw [e] at h; exact absurd h (by decide)
  · rw [e] at h; exact absurd h (by decide)
theorem pw_lc_ngt {x y : Int64} (h : ¬ 0 < lg_cmp x y) : x.toInt ≤ y.toInt := by
  rcases @pw_lc x y with ⟨e, q⟩ | ⟨e, q⟩ | ⟨e, q⟩
  · rw [e] at h; exact absurd (by decide) h
  · omega
  · omega
theorem pw_in0 {x : Int32} {lo hi : Int64} {a b : Int} (h0 : lo.toInt ≤ x.toInt64.toInt) (h1 : x.toInt64.toInt ≤ hi.toInt) (ha : lo.toInt = a) (hb : hi.toInt = b) : a ≤ x.toInt ∧ x.toInt ≤ b := by
  rw [Int32.toInt_toInt64] at h0 h1
  subst ha; subst hb
  exact ⟨h0, h1⟩
theorem pw_nin0 {x : Int32} {lo hi : Int64} {a b : Int} (h : ¬ (lo.toInt ≤ x.toInt64.toInt ∧ x.toInt64.toInt ≤ hi.toInt)) (ha : lo.toInt = a) (hb : hi.toInt = b) : ¬ (a ≤ x.toInt ∧ x.toInt ≤ b) := by
  rw [Int32.toInt_toInt64] at h
  subst ha; subst hb
  exact h
theorem pw_keep {D : va_G} {cl : List vw_C} {ws : va_W} {H H1 : Heap} (hP : va_P D cl ws H) (hk : ∀ q : Nat, q < H.size → H1[q]? = H[q]?) : va_P D cl ws H1 := fun k q hq => (hP k q hq).kept (hk q.1 (hP k q hq).lt)
theorem pw_heap {p : Program} {l : Launch} {e : Env} {R : Room} {s : State} {m : MethodId} {args : Array Value} {below : List Frame} {meth : Method} {c : Code} {H : Heap} {locs : List Loc} {cells slots : Nat} {Q : State → Prop} {g : JFrame} (h : H = s.heap) (k : W p l e R s m args below meth c H locs cells slots Q g) : W p l e R s m args below meth c s.heap locs cells slots Q g := h ▸ k
/-- one answer in the range 0 .. hi, another one beside it -/
def sp_rng (w : Int32) (hi : Int) (a b : Int32) : Int32 := if 0 ≤ w.toInt ∧ w.toInt ≤ hi then a else b
theorem sp_in {w : Int32} {hi : Int} {a b : Int32} (h0 : 0 ≤ w.toInt) (h1 : w.toInt ≤ hi) : a = sp_rng w hi a b := (if_pos ⟨h0, h1⟩).symm
theorem sp_out {w : Int32} {hi : Int} {a b : Int32} (h : ¬ (0 ≤ w.toInt ∧ w.toInt ≤ hi)) : b = sp_rng w hi a b := (if_neg h).symm
theorem pw_is {x : Int32} (k : Int32) (h : x.toInt = k.toInt) : x = k := Int32.toInt_inj.mp h
theorem pw_sw7 (x : Int32) : (x.toInt < 0 ∨ 6 < x.toInt) ∨ x = 0 ∨ x = 1 ∨ x = 2 ∨ x = 3 ∨ x = 4 ∨ x = 5 ∨ x = 6 := by
  by_cases h : x.toInt < 0 ∨ 6 < x.toInt
  · exact Or.inl h
  · refine Or.inr ?_
    rcases (show x.toInt = 0 ∨ x.toInt = 1 ∨ x.toInt = 2 ∨ x.toInt = 3 ∨ x.toInt = 4 ∨ x.toInt = 5 ∨ x.toInt = 6 by omega) with q | q | q | q | q | q | q
    · exact Or.inl (pw_is 0 (q.trans (by decide)))
    · exact Or.inr (Or.inl (pw_is 1 (q.trans (by decide))))
    · exact Or.inr (Or.inr (Or.inl (pw_is 2 (q.trans (by decide)))))
    · exact Or.inr (Or.inr (Or.inr (Or.inl (pw_is 3 (q.trans (by decide))))))
    · exact Or.inr (Or.inr (Or.inr (Or.inr (Or.inl (pw_is 4 (q.trans (by decide)))))))
    · exact Or.inr (Or.inr (Or.inr (Or.inr (Or.inr (Or.inl (pw_is 5 (q.trans (by decide))))))))
    · exact Or.inr (Or.inr (Or.inr (Or.inr (Or.inr (Or.inr (pw_is 6 (q.trans (by decide))))))))
theorem pw_cit {c : Int32} (h0 : 0 ≤ c.toInt) (h1 : c.toInt ≤ 7) : vp_in (128 + 5 * c + 0) 192 := by
  rcases (show c.toInt = 0 ∨ c.toInt = 1 ∨ c.toInt = 2 ∨ c.toInt = 3 ∨ c.toInt = 4 ∨ c.toInt = 5 ∨ c.toInt = 6 ∨ c.toInt = 7 by omega) with q | q | q | q | q | q | q | q
  · rw [pw_is 0 (q.trans (by decide))]; exact vp_in_iff.mpr (by decide)
  · rw [pw_is 1 (q.trans (by decide))]; exact vp_in_iff.mpr (by decide)
  · rw [pw_is 2 (q.trans (by decide))]; exact vp_in_iff.mpr (by decide)
  · rw [pw_is 3 (q.trans (by decide))]; exact vp_in_iff.mpr (by decide)
  · rw [pw_is 4 (q.trans (by decide))]; exact vp_in_iff.mpr (by decide)
  · rw [pw_is 5 (q.trans (by decide))]; exact vp_in_iff.mpr (by decide)
  · rw [pw_is 6 (q.trans (by decide))]; exact vp_in_iff.mpr (by decide)
  · rw [pw_is 7 (q.trans (by decide))]; exact vp_in_iff.mpr (by decide)
end
section
theorem dX8_hasEdition_0 : decode cX8_hasEdition 0 = .ok (.iload_n 1, 1) := by decide +kernel
theorem dX8_hasEdition_1 : decode cX8_hasEdition 1 = .ok (.ifCond .lt 24, 3) := by decide +kernel
theorem dX8_hasEdition_4 : decode cX8_hasEdition 4 = .ok (.iload_n 1, 1) := by decide +kernel
theorem dX8_hasEdition_5 : decode cX8_hasEdition 5 = .ok (.aload_n 0, 1) := by decide +kernel
theorem dX8_hasEdition_6 : decode cX8_hasEdition 6 = .ok (.getfield 37, 3) := by decide +kernel
theorem dX8_hasEdition_9 : decode cX8_hasEdition 9 = .ok (.if_icmp .ge 16, 3) := by decide +kernel
theorem dX8_hasEdition_12 : decode cX8_hasEdition 12 = .ok (.iload_n 1, 1) := by decide +kernel
theorem dX8_hasEdition_13 : decode cX8_hasEdition 13 = .ok (.aload_n 0, 1) := by decide +kernel
theorem dX8_hasEdition_14 : decode cX8_hasEdition 14 = .ok (.getfield 9, 3) := by decide +kernel
theorem dX8_hasEdition_17 : decode cX8_hasEdition 17 = .ok (.arraylength, 1) := by decide +kernel
theorem dX8_hasEdition_18 : decode cX8_hasEdition 18 = .ok (.if_icmp .ge 7, 3) := by decide +kernel
theorem dX8_hasEdition_21 : decode cX8_hasEdition 21 = .ok (.iconst 1, 1) := by decide +kernel
theorem dX8_hasEdition_22 : decode cX8_hasEdition 22 = .ok (.goto 4, 3) := by decide +kernel
theorem dX8_hasEdition_25 : decode cX8_hasEdition 25 = .ok (.iconst 0, 1) := by decide +kernel
theorem dX8_hasEdition_26 : decode cX8_hasEdition 26 = .ok (.ireturn, 1) := by decide +kernel
theorem dX8_stretchesOf_0 : decode cX8_stretchesOf 0 = .ok (.aload_n 0, 1) := by decide +kernel
theorem dX8_stretchesOf_1 : decode cX8_stretchesOf 1 = .ok (.iload_n 1, 1) := by decide +kernel
theorem dX8_stretchesOf_2 : decode cX8_stretchesOf 2 = .ok (.invokevirtual 43, 3) := by decide +kernel
theorem dX8_stretchesOf_5 : decode cX8_stretchesOf 5 = .ok (.ifCond .eq 12, 3) := by decide +kernel
theorem dX8_stretchesOf_8 : decode cX8_stretchesOf 8 = .ok (.aload_n 0, 1) := by decide +kernel
theorem dX8_stretchesOf_9 : decode cX8_stretchesOf 9 = .ok (.getfield 9, 3) := by decide +kernel
theorem dX8_stretchesOf_12 : decode cX8_stretchesOf 12 = .ok (.iload_n 1, 1) := by decide +kernel
theorem dX8_stretchesOf_13 : decode cX8_stretchesOf 13 = .ok (.iaload, 1) := by decide +kernel
theorem dX8_stretchesOf_14 : decode cX8_stretchesOf 14 = .ok (.goto 4, 3) := by decide +kernel
theorem dX8_stretchesOf_17 : decode cX8_stretchesOf 17 = .ok (.iconst 0, 1) := by decide +kernel
theorem dX8_stretchesOf_18 : decode cX8_stretchesOf 18 = .ok (.ireturn, 1) := by decide +kernel
theorem dX8_hasStretch_0 : decode cX8_hasStretch 0 = .ok (.iload_n 2, 1) := by decide +kernel
theorem dX8_hasStretch_1 : decode cX8_hasStretch 1 = .ok (.ifCond .lt 16, 3) := by decide +kernel
theorem dX8_hasStretch_4 : decode cX8_hasStretch 4 = .ok (.iload_n 2, 1) := by decide +kernel
theorem dX8_hasStretch_5 : decode cX8_hasStretch 5 = .ok (.aload_n 0, 1) := by decide +kernel
theorem dX8_hasStretch_6 : decode cX8_hasStretch 6 = .ok (.iload_n 1, 1) := by decide +kernel
theorem dX8_hasStretch_7 : decode cX8_hasStretch 7 = .ok (.invokevirtual 47, 3) := by decide +kernel
theorem dX8_hasStretch_10 : decode cX8_hasStretch 10 = .ok (.if_icmp .ge 7, 3) := by decide +kernel
theorem dX8_hasStretch_13 : decode cX8_hasStretch 13 = .ok (.iconst 1, 1) := by decide +kernel
theorem dX8_hasStretch_14 : decode cX8_hasStretch 14 = .ok (.goto 4, 3) := by decide +kernel
theorem dX8_hasStretch_17 : decode cX8_hasStretch 17 = .ok (.iconst 0, 1) := by decide +kernel
theorem dX8_hasStretch_18 : decode cX8_hasStretch 18 = .ok (.ireturn, 1) := by decide +kernel
theorem dX8_hasLine_0 : decode cX8_hasLine 0 = .ok (.iload_n 1, 1) := by decide +kernel
theorem dX8_hasLine_1 : decode cX8_hasLine 1 = .ok (.ifCond .lt 15, 3) := by decide +kernel
theorem dX8_hasLine_4 : decode cX8_hasLine 4 = .ok (.iload_n 1, 1) := by decide +kernel
theorem dX8_hasLine_5 : decode cX8_hasLine 5 = .ok (.aload_n 0, 1) := by decide +kernel
theorem dX8_hasLine_6 : decode cX8_hasLine 6 = .ok (.getfield 33, 3) := by decide +kernel
theorem dX8_hasLine_9 : decode cX8_hasLine 9 = .ok (.if_icmp .ge 7, 3) := by decide +kernel
theorem dX8_hasLine_12 : decode cX8_hasLine 12 = .ok (.iconst 1, 1) := by decide +kernel
theorem dX8_hasLine_13 : decode cX8_hasLine 13 = .ok (.goto 4, 3) := by decide +kernel
theorem dX8_hasLine_16 : decode cX8_hasLine 16 = .ok (.iconst 0, 1) := by decide +kernel
theorem dX8_hasLine_17 : decode cX8_hasLine 17 = .ok (.ireturn, 1) := by decide +kernel
theorem dX8_lines_0 : decode cX8_lines 0 = .ok (.aload_n 0, 1) := by decide +kernel
theorem dX8_lines_1 : decode cX8_lines 1 = .ok (.getfield 33, 3) := by decide +kernel
theorem dX8_lines_4 : decode cX8_lines 4 = .ok (.ireturn, 1) := by decide +kernel
theorem dX8_editions_0 : decode cX8_editions 0 = .ok (.aload_n 0, 1) := by decide +kernel
theorem dX8_editions_1 : decode cX8_editions 1 = .ok (.getfield 37, 3) := by decide +kernel
theorem dX8_editions_4 : decode cX8_editions 4 = .ok (.ireturn, 1) := by decide +kernel
theorem dX8_seen_0 : decode cX8_seen 0 = .ok (.aload_n 0, 1) := by decide +kernel
theorem dX8_seen_1 : decode cX8_seen 1 = .ok (.getfield 40, 3) := by decide +kernel
theorem dX8_seen_4 : decode cX8_seen 4 = .ok (.ireturn, 1) := by decide +kernel
theorem dX8_stretches_0 : decode cX8_stretches 0 = .ok (.iconst 0, 1) := by decide +kernel
theorem dX8_stretches_1 : decode cX8_stretches 1 = .ok (.istore_n 1, 1) := by decide +kernel
theorem dX8_stretches_2 : decode cX8_stretches 2 = .ok (.iconst 0, 1) := by decide +kernel
theorem dX8_stretches_3 : decode cX8_stretches 3 = .ok (.istore_n 2, 1) := by decide +kernel
theorem dX8_stretches_4 : decode cX8_stretches 4 = .ok (.iload_n 2, 1) := by decide +kernel
theorem dX8_stretches_5 : decode cX8_stretches 5 = .ok (.aload_n 0, 1) := by decide +kernel
theorem dX8_stretches_6 : decode cX8_stretches 6 = .ok (.getfield 37, 3) := by decide +kernel
theorem dX8_stretches_9 : decode cX8_stretches 9 = .ok (.if_icmp .ge 17, 3) := by decide +kernel
theorem dX8_stretches_12 : decode cX8_stretches 12 = .ok (.iload_n 1, 1) := by decide +kernel
theorem dX8_stretches_13 : decode cX8_stretches 13 = .ok (.aload_n 0, 1) := by decide +kernel
theorem dX8_stretches_14 : decode cX8_stretches 14 = .ok (.iload_n 2, 1) := by decide +kernel
theorem dX8_stretches_15 : decode cX8_stretches 15 = .ok (.invokevirtual 47, 3) := by decide +kernel
theorem dX8_stretches_18 : decode cX8_stretches 18 = .ok (.iadd, 1) := by decide +kernel
theorem dX8_stretches_19 : decode cX8_stretches 19 = .ok (.istore_n 1, 1) := by decide +kernel
theorem dX8_stretches_20 : decode cX8_stretches 20 = .ok (.iinc 2 1, 3) := by decide +kernel
theorem dX8_stretches_23 : decode cX8_stretches 23 = .ok (.goto (-19), 3) := by decide +kernel
theorem dX8_stretches_26 : decode cX8_stretches 26 = .ok (.iload_n 1, 1) := by decide +kernel
theorem dX8_stretches_27 : decode cX8_stretches 27 = .ok (.ireturn, 1) := by decide +kernel
theorem dX8_citedPart_0 : decode cX8_citedPart 0 = .ok (.iload_n 1, 1) := by decide +kernel
theorem dX8_citedPart_1 : decode cX8_citedPart 1 = .ok (.iconst 4, 1) := by decide +kernel
theorem dX8_citedPart_2 : decode cX8_citedPart 2 = .ok (.imul, 1) := by decide +kernel
theorem dX8_citedPart_3 : decode cX8_citedPart 3 = .ok (.iload_n 2, 1) := by decide +kernel
theorem dX8_citedPart_4 : decode cX8_citedPart 4 = .ok (.iadd, 1) := by decide +kernel
theorem dX8_citedPart_5 : decode cX8_citedPart 5 = .ok (.istore_n 3, 1) := by decide +kernel
theorem dX8_citedPart_6 : decode cX8_citedPart 6 = .ok (.iload_n 3, 1) := by decide +kernel
theorem dX8_citedPart_7 : decode cX8_citedPart 7 = .ok (.ifCond .lt 12, 3) := by decide +kernel
theorem dX8_citedPart_10 : decode cX8_citedPart 10 = .ok (.iload_n 3, 1) := by decide +kernel
theorem dX8_citedPart_11 : decode cX8_citedPart 11 = .ok (.aload_n 0, 1) := by decide +kernel
theorem dX8_citedPart_12 : decode cX8_citedPart 12 = .ok (.getfield 18, 3) := by decide +kernel
theorem dX8_citedPart_15 : decode cX8_citedPart 15 = .ok (.arraylength, 1) := by decide +kernel
theorem dX8_citedPart_16 : decode cX8_citedPart 16 = .ok (.if_icmp .lt 7, 3) := by decide +kernel
theorem dX8_citedPart_19 : decode cX8_citedPart 19 = .ok (.iconst 0, 1) := by decide +kernel
theorem dX8_citedPart_20 : decode cX8_citedPart 20 = .ok (.goto 9, 3) := by decide +kernel
theorem dX8_citedPart_23 : decode cX8_citedPart 23 = .ok (.aload_n 0, 1) := by decide +kernel
theorem dX8_citedPart_24 : decode cX8_citedPart 24 = .ok (.getfield 18, 3) := by decide +kernel
theorem dX8_citedPart_27 : decode cX8_citedPart 27 = .ok (.iload_n 3, 1) := by decide +kernel
theorem dX8_citedPart_28 : decode cX8_citedPart 28 = .ok (.iaload, 1) := by decide +kernel
theorem dX8_citedPart_29 : decode cX8_citedPart 29 = .ok (.ireturn, 1) := by decide +kernel
theorem dX8_hasCitation_0 : decode cX8_hasCitation 0 = .ok (.iload_n 1, 1) := by decide +kernel
theorem dX8_hasCitation_1 : decode cX8_hasCitation 1 = .ok (.ifCond .lt 22, 3) := by decide +kernel
theorem dX8_hasCitation_4 : decode cX8_hasCitation 4 = .ok (.iload_n 1, 1) := by decide +kernel
theorem dX8_hasCitation_5 : decode cX8_hasCitation 5 = .ok (.bipush 8, 2) := by decide +kernel
theorem dX8_hasCitation_7 : decode cX8_hasCitation 7 = .ok (.if_icmp .ge 16, 3) := by decide +kernel
theorem dX8_hasCitation_10 : decode cX8_hasCitation 10 = .ok (.aload_n 0, 1) := by decide +kernel
theorem dX8_hasCitation_11 : decode cX8_hasCitation 11 = .ok (.iload_n 1, 1) := by decide +kernel
theorem dX8_hasCitation_12 : decode cX8_hasCitation 12 = .ok (.iconst 2, 1) := by decide +kernel
theorem dX8_hasCitation_13 : decode cX8_hasCitation 13 = .ok (.invokevirtual 89, 3) := by decide +kernel
theorem dX8_hasCitation_16 : decode cX8_hasCitation 16 = .ok (.ifCond .le 7, 3) := by decide +kernel
theorem dX8_hasCitation_19 : decode cX8_hasCitation 19 = .ok (.iconst 1, 1) := by decide +kernel
theorem dX8_hasCitation_20 : decode cX8_hasCitation 20 = .ok (.goto 4, 3) := by decide +kernel
theorem dX8_hasCitation_23 : decode cX8_hasCitation 23 = .ok (.iconst 0, 1) := by decide +kernel
theorem dX8_hasCitation_24 : decode cX8_hasCitation 24 = .ok (.ireturn, 1) := by decide +kernel
theorem dX8_citations_0 : decode cX8_citations 0 = .ok (.iconst 0, 1) := by decide +kernel
theorem dX8_citations_1 : decode cX8_citations 1 = .ok (.istore_n 1, 1) := by decide +kernel
theorem dX8_citations_2 : decode cX8_citations 2 = .ok (.iconst 0, 1) := by decide +kernel
theorem dX8_citations_3 : decode cX8_citations 3 = .ok (.istore_n 2, 1) := by decide +kernel
theorem dX8_citations_4 : decode cX8_citations 4 = .ok (.iload_n 2, 1) := by decide +kernel
theorem dX8_citations_5 : decode cX8_citations 5 = .ok (.bipush 8, 2) := by decide +kernel
theorem dX8_citations_7 : decode cX8_citations 7 = .ok (.if_icmp .ge 20, 3) := by decide +kernel
theorem dX8_citations_10 : decode cX8_citations 10 = .ok (.aload_n 0, 1) := by decide +kernel
theorem dX8_citations_11 : decode cX8_citations 11 = .ok (.iload_n 2, 1) := by decide +kernel
theorem dX8_citations_12 : decode cX8_citations 12 = .ok (.invokevirtual 97, 3) := by decide +kernel
theorem dX8_citations_15 : decode cX8_citations 15 = .ok (.ifCond .eq 6, 3) := by decide +kernel
theorem dX8_citations_18 : decode cX8_citations 18 = .ok (.iinc 1 1, 3) := by decide +kernel
theorem dX8_citations_21 : decode cX8_citations 21 = .ok (.iinc 2 1, 3) := by decide +kernel
theorem dX8_citations_24 : decode cX8_citations 24 = .ok (.goto (-20), 3) := by decide +kernel
theorem dX8_citations_27 : decode cX8_citations 27 = .ok (.iload_n 1, 1) := by decide +kernel
theorem dX8_citations_28 : decode cX8_citations 28 = .ok (.ireturn, 1) := by decide +kernel
theorem dX0_size_0 : decode cX0_size 0 = .ok (.aload_n 0, 1) := by decide +kernel
theorem dX0_size_1 : decode cX0_size 1 = .ok (.getfield 17, 3) := by decide +kernel
theorem dX0_size_4 : decode cX0_size 4 = .ok (.ireturn, 1) := by decide +kernel
theorem dX0_takeBack_0 : decode cX0_takeBack 0 = .ok (.aload_n 0, 1) := by decide +kernel
theorem dX0_takeBack_1 : decode cX0_takeBack 1 = .ok (.getfield 21, 3) := by decide +kernel
theorem dX0_takeBack_4 : decode cX0_takeBack 4 = .ok (.bipush 10, 2) := by decide +kernel
theorem dX0_takeBack_6 : decode cX0_takeBack 6 = .ok (.iadd, 1) := by decide +kernel
theorem dX0_takeBack_7 : decode cX0_takeBack 7 = .ok (.iconst 1, 1) := by decide +kernel
theorem dX0_takeBack_8 : decode cX0_takeBack 8 = .ok (.isub, 1) := by decide +kernel
theorem dX0_takeBack_9 : decode cX0_takeBack 9 = .ok (.bipush 10, 2) := by decide +kernel
theorem dX0_takeBack_11 : decode cX0_takeBack 11 = .ok (.irem, 1) := by decide +kernel
theorem dX0_takeBack_12 : decode cX0_takeBack 12 = .ok (.istore_n 2, 1) := by decide +kernel
theorem dX0_takeBack_13 : decode cX0_takeBack 13 = .ok (.aload_n 0, 1) := by decide +kernel
theorem dX0_takeBack_14 : decode cX0_takeBack 14 = .ok (.getfield 17, 3) := by decide +kernel
theorem dX0_takeBack_17 : decode cX0_takeBack 17 = .ok (.ifCond .le 16, 3) := by decide +kernel
theorem dX0_takeBack_20 : decode cX0_takeBack 20 = .ok (.iload_n 2, 1) := by decide +kernel
theorem dX0_takeBack_21 : decode cX0_takeBack 21 = .ok (.ifCond .lt 12, 3) := by decide +kernel
theorem dX0_takeBack_24 : decode cX0_takeBack 24 = .ok (.iload_n 2, 1) := by decide +kernel
theorem dX0_takeBack_25 : decode cX0_takeBack 25 = .ok (.aload_n 0, 1) := by decide +kernel
theorem dX0_takeBack_26 : decode cX0_takeBack 26 = .ok (.getfield 11, 3) := by decide +kernel
theorem dX0_takeBack_29 : decode cX0_takeBack 29 = .ok (.arraylength, 1) := by decide +kernel
theorem dX0_takeBack_30 : decode cX0_takeBack 30 = .ok (.if_icmp .lt 5, 3) := by decide +kernel
theorem dX0_takeBack_33 : decode cX0_takeBack 33 = .ok (.iconst 0, 1) := by decide +kernel
theorem dX0_takeBack_34 : decode cX0_takeBack 34 = .ok (.ireturn, 1) := by decide +kernel
theorem dX0_takeBack_35 : decode cX0_takeBack 35 = .ok (.aload_n 0, 1) := by decide +kernel
theorem dX0_takeBack_36 : decode cX0_takeBack 36 = .ok (.getfield 11, 3) := by decide +kernel
theorem dX0_takeBack_39 : decode cX0_takeBack 39 = .ok (.iload_n 2, 1) := by decide +kernel
theorem dX0_takeBack_40 : decode cX0_takeBack 40 = .ok (.aaload, 1) := by decide +kernel
theorem dX0_takeBack_41 : decode cX0_takeBack 41 = .ok (.astore_n 3, 1) := by decide +kernel
theorem dX0_takeBack_42 : decode cX0_takeBack 42 = .ok (.aload_n 3, 1) := by decide +kernel
theorem dX0_takeBack_43 : decode cX0_takeBack 43 = .ok (.ifnonnull 5, 3) := by decide +kernel
theorem dX0_takeBack_46 : decode cX0_takeBack 46 = .ok (.iconst 0, 1) := by decide +kernel
theorem dX0_takeBack_47 : decode cX0_takeBack 47 = .ok (.ireturn, 1) := by decide +kernel
theorem dX0_takeBack_48 : decode cX0_takeBack 48 = .ok (.aload_n 1, 1) := by decide +kernel
theorem dX0_takeBack_49 : decode cX0_takeBack 49 = .ok (.aload_n 3, 1) := by decide +kernel
theorem dX0_takeBack_50 : decode cX0_takeBack 50 = .ok (.invokevirtual 25, 3) := by decide +kernel
theorem dX0_takeBack_53 : decode cX0_takeBack 53 = .ok (.aload_n 0, 1) := by decide +kernel
theorem dX0_takeBack_54 : decode cX0_takeBack 54 = .ok (.iload_n 2, 1) := by decide +kernel
theorem dX0_takeBack_55 : decode cX0_takeBack 55 = .ok (.putfield 21, 3) := by decide +kernel
theorem dX0_takeBack_58 : decode cX0_takeBack 58 = .ok (.aload_n 0, 1) := by decide +kernel
theorem dX0_takeBack_59 : decode cX0_takeBack 59 = .ok (.dup, 1) := by decide +kernel
theorem dX0_takeBack_60 : decode cX0_takeBack 60 = .ok (.getfield 17, 3) := by decide +kernel
theorem dX0_takeBack_63 : decode cX0_takeBack 63 = .ok (.iconst 1, 1) := by decide +kernel
theorem dX0_takeBack_64 : decode cX0_takeBack 64 = .ok (.isub, 1) := by decide +kernel
theorem dX0_takeBack_65 : decode cX0_takeBack 65 = .ok (.putfield 17, 3) := by decide +kernel
theorem dX0_takeBack_68 : decode cX0_takeBack 68 = .ok (.iconst 1, 1) := by decide +kernel
theorem dX0_takeBack_69 : decode cX0_takeBack 69 = .ok (.ireturn, 1) := by decide +kernel
theorem dX7_size_0 : decode cX7_size 0 = .ok (.aload_n 0, 1) := by decide +kernel
theorem dX7_size_1 : decode cX7_size 1 = .ok (.getfield 15, 3) := by decide +kernel
theorem dX7_size_4 : decode cX7_size 4 = .ok (.ireturn, 1) := by decide +kernel
theorem dX7_latestFault_0 : decode cX7_latestFault 0 = .ok (.aload_n 0, 1) := by decide +kernel
theorem dX7_latestFault_1 : decode cX7_latestFault 1 = .ok (.getfield 19, 3) := by decide +kernel
theorem dX7_latestFault_4 : decode cX7_latestFault 4 = .ok (.ireturn, 1) := by decide +kernel
theorem dX9_isNumber_0 : decode cX9_isNumber 0 = .ok (.iload_n 0, 1) := by decide +kernel
theorem dX9_isNumber_1 : decode cX9_isNumber 1 = .ok (.iconst 1, 1) := by decide +kernel
theorem dX9_isNumber_2 : decode cX9_isNumber 2 = .ok (.if_icmp .lt 14, 3) := by decide +kernel
theorem dX9_isNumber_5 : decode cX9_isNumber 5 = .ok (.iload_n 0, 1) := by decide +kernel
theorem dX9_isNumber_6 : decode cX9_isNumber 6 = .ok (.sipush 999, 3) := by decide +kernel
theorem dX9_isNumber_9 : decode cX9_isNumber 9 = .ok (.if_icmp .gt 7, 3) := by decide +kernel
theorem dX9_isNumber_12 : decode cX9_isNumber 12 = .ok (.iconst 1, 1) := by decide +kernel
theorem dX9_isNumber_13 : decode cX9_isNumber 13 = .ok (.goto 4, 3) := by decide +kernel
theorem dX9_isNumber_16 : decode cX9_isNumber 16 = .ok (.iconst 0, 1) := by decide +kernel
theorem dX9_isNumber_17 : decode cX9_isNumber 17 = .ok (.ireturn, 1) := by decide +kernel
def w_X8_hasEdition : List Cond := .code yX8_hasEdition cX8_hasEdition 2 (some .boolean) :: ([.fieldLink RX8 37 "LineCites$Work" "editions" "I"] ++ wsX80)
set_option maxHeartbeats 4000000 in
set_option maxRecDepth 100000 in
theorem c_X8_hasEdition (l : Launch) (D : va_G) (h0 : Nat) (i_e : Int32) (b_sc : Nat) (b_sp : Nat) (b_cp : Nat) (b_sn : Nat) (b_sl : Nat) : Met l yX8_hasEdition w_X8_hasEdition ({ frames := 0, cells := 0, slots := 0, locals := 0 }) (va_Pc [.ref h0, .int i_e] (fun U => va_P D vwCl [(h0, .inr (8, [.ref b_sc, .ref b_sp, .ref b_cp, .ref b_sn, .ref b_sl, .int 0, .int 0, .int 0]))] U.heap ∧ va_K D vwCl [] U)) (va_Qi (fun (r : Int32) (_ : Unit) => r = 0) (fun _ _ => True) (fun _ => False)) 0 0 (fun _ => False) := by
  refine Met.ofW (cc := cX8_hasEdition) (maxL := 2) (ret := (some .boolean)) (by decide) rfl ?_
  intro p e s m args below meth c s₁ B hml hv
  obtain ⟨rfl, hP, hK⟩ := hv
  have hx := B.exec
  have hb := B.bytes
  have hr := B.returns
  have hts := atoms_spec (ws := w_X8_hasEdition) B.pre
  have hown : s.vm.findClass RX8 = some m.cls := findClass_of_methodNamed B.named
  have hlocks := B.notSynchronized
  have hS : va_S (fun _ : Nat => False) s.heap s.heap [] := va_S.rf
  have hP : va_P D vwCl [(h0, .inr (8, [.ref b_sc, .ref b_sp, .ref b_cp, .ref b_sn, .ref b_sl, .int 0, .int 0, .int 0]))] s.heap := hP
  have hl := lv_entry ([.ref h0, .int i_e]) (n := 2) (Nat.le_of_ble_eq_true rfl)
  rw [lg_entry_eq]
  generalize (lg_sl ([.ref h0, .int i_e]) ++ List.replicate (2 - (lg_sl ([.ref h0, .int i_e])).length) Slot.unset).toArray = ls at hl ⊢
  have hl : lv_has ls 2 [(0, .ref h0), (1, .int i_e)] := hl
  obtain ⟨H, hHe⟩ : ∃ H : Heap, H = s.heap := ⟨_, rfl⟩
  rw [← hHe] at hP
  have hS : va_S (fun _ : Nat => False) s.heap H [] := by rw [hHe]; exact hS
  refine pw_heap hHe ?_
  refine lv_iload_n hx hb dX8_hasEdition_0 rfl (lv_at hl 1 rfl) ?_
  refine lv_if_lt (tgt := 25) hx hb dX8_hasEdition_1 (by decide) (fun c1 => ?_) (fun c1 => ?_)
  · have nc1 : i_e.toInt < 0 := pw_lt c1 rfl (by decide)
    refine lv_iconst (v := 0) hx hb dX8_hasEdition_25 (by decide) ?_
    exact W.zret (v := 0) (ty := .boolean) hx hb hr rfl (fun t ht hW => ⟨⟨0, (), rfl, rfl, trivial⟩, hS.F ht⟩) hS.2.2 dX8_hasEdition_26
  · have nc1 : 0 ≤ i_e.toInt := pw_nlt c1 rfl (by decide)
    refine lv_iload_n hx hb dX8_hasEdition_4 rfl (lv_at hl 1 rfl) ?_
    refine lv_aload_n hx hb dX8_hasEdition_5 rfl (lv_at hl 0 rfl) ?_
    refine va_get (D := D) (ci := 8) (v := .int 0) (C := RX8) (T := TX8) (N := 8) hx hb hts (fun _ h => List.mem_cons_of_mem _ (List.mem_append_right _ h)) hown hK hP 0 rfl rfl 6 (by decide) (hts (.fieldLink RX8 37 "LineCites$Work" "editions" "I") (List.mem_of_getElem? (i := 1) rfl)) (fun _ h9 => h9) rfl dX8_hasEdition_6 ?_
    refine lv_icmp_ge (tgt := 25) hx hb dX8_hasEdition_9 (by decide) (fun c2 => ?_) (fun c2 => False.elim (by have nn : i_e.toInt < 0 := pw_nle c2 (by decide) rfl; omega))
    have nc2 : 0 ≤ i_e.toInt := pw_le c2 (by decide) rfl
    refine lv_iconst (v := 0) hx hb dX8_hasEdition_25 (by decide) ?_
    exact W.zret (v := 0) (ty := .boolean) hx hb hr rfl (fun t ht hW => ⟨⟨0, (), rfl, rfl, trivial⟩, hS.F ht⟩) hS.2.2 dX8_hasEdition_26
def w_X8_stretchesOf : List Cond := .code yX8_stretchesOf cX8_stretchesOf 2 (some .int) :: ([.methodLink RX8 43 yX8_hasEdition, .instanceMethod yX8_hasEdition, .selects RX8 yX8_hasEdition yX8_hasEdition, .initialized RX8, .code yX8_hasEdition cX8_hasEdition 2 (some .boolean), .fieldLink RX8 37 "LineCites$Work" "editions" "I"] ++ wsX80)
set_option maxRecDepth 20000 in
theorem g_X8_stretchesOf_X8_hasEdition : GoodIn w_X8_stretchesOf (wsV RX8 43 RX8 yX8_hasEdition w_X8_hasEdition) := goodIn_r _ [1, 2, 3, 4, 5, 6, 7, 8, 9, 10, 11, 12, 13, 14] rfl (by decide +kernel)
set_option maxHeartbeats 4000000 in
set_option maxRecDepth 100000 in
theorem c_X8_stretchesOf (l : Launch) (D : va_G) (h0 : Nat) (i_e : Int32) (b_sc : Nat) (b_sp : Nat) (b_cp : Nat) (b_sn : Nat) (b_sl : Nat) : Met l yX8_stretchesOf w_X8_stretchesOf ({ frames := 1, cells := 0, slots := 0, locals := 21 }) (va_Pc [.ref h0, .int i_e] (fun U => va_P D vwCl [(h0, .inr (8, [.ref b_sc, .ref b_sp, .ref b_cp, .ref b_sn, .ref b_sl, .int 0, .int 0, .int 0]))] U.heap ∧ va_K D vwCl [] U)) (va_Qi (fun (r : Int32) (_ : Unit) => r = 0) (fun _ _ => True) (fun _ => False)) 0 0 (fun _ => False) := by
  refine Met.ofW (cc := cX8_stretchesOf) (maxL := 2) (ret := (some .int)) (by decide) rfl ?_
  intro p e s m args below meth c s₁ B hml hv
  obtain ⟨rfl, hP, hK⟩ := hv
  have hx := B.exec
  have hb := B.bytes
  have hr := B.returns
  have hts := atoms_spec (ws := w_X8_stretchesOf) B.pre
  have hown : s.vm.findClass RX8 = some m.cls := findClass_of_methodNamed B.named
  have hlocks := B.notSynchronized
  have hS : va_S (fun _ : Nat => False) s.heap s.heap [] := va_S.rf
  have hP : va_P D vwCl [(h0, .inr (8, [.ref b_sc, .ref b_sp, .ref b_cp, .ref b_sn, .ref b_sl, .int 0, .int 0, .int 0]))] s.heap := hP
  have hl := lv_entry ([.ref h0, .int i_e]) (n := 2) (Nat.le_of_ble_eq_true rfl)
  rw [lg_entry_eq]
  generalize (lg_sl ([.ref h0, .int i_e]) ++ List.replicate (2 - (lg_sl ([.ref h0, .int i_e])).length) Slot.unset).toArray = ls at hl ⊢
  have hl : lv_has ls 2 [(0, .ref h0), (1, .int i_e)] := hl
  obtain ⟨H, hHe⟩ : ∃ H : Heap, H = s.heap := ⟨_, rfl⟩
  rw [← hHe] at hP
  have hS : va_S (fun _ : Nat => False) s.heap H [] := by rw [hHe]; exact hS
  refine pw_heap hHe ?_
  refine lv_aload_n hx hb dX8_stretchesOf_0 rfl (lv_at hl 0 rfl) ?_
  refine lv_iload_n hx hb dX8_stretchesOf_1 rfl (lv_at hl 1 rfl) ?_
  have hPc := hP.sub (ws' := [(h0, .inr (8, [.ref b_sc, .ref b_sp, .ref b_cp, .ref b_sn, .ref b_sl, .int 0, .int 0, .int 0]))]) [0] rfl
  have hKc := hK.sub (tys' := []) [] rfl
  refine va_calli (va_runV (As := [.int i_e]) (rest := []) ⟨hx, hb, hml, hown, hts⟩ (c_X8_hasEdition l D h0 i_e b_sc b_sp b_cp b_sn b_sl) (cwV 1 hts g_X8_stretchesOf_X8_hasEdition rfl rfl rfl (by decide +kernel) ⟨Nat.le_of_ble_eq_true rfl, Nat.le_of_ble_eq_true rfl⟩) ⟨fun a U g mk q => by obtain ⟨q0, qP, qK⟩ := q; exact ⟨q0, qP, va_K.moved (u := U) (U := U.calling g mk a) (Vm.Alike.refl U.vm) qK⟩, va_recv hKc hPc (ci := 8) (q0 := 0) rfl rfl, fun U hU hW => ⟨rfl, by rw [hU]; exact hPc, va_K.moved hW.alike hKc⟩⟩ rfl rfl hl.1 rfl (lv_room (Nat.le_of_ble_eq_true rfl)) dX8_stretchesOf_2 ⟨Nat.le_of_ble_eq_true rfl, Nat.le_of_ble_eq_true rfl⟩) hS (fun _ _ h => h.elim) (fun _ h => h.elim) (fun r1 u t H1 locs ht hvm hw hB hz1 hk1 hS => ?_)
  have hP := pw_keep hP (fun q hq => hk1 q hq (fun h => h))
  generalize H1 = H at hP hS ⊢
  refine W.widen (k := 0) (n := 0) (Nat.le_of_ble_eq_true rfl) (Nat.le_of_ble_eq_true rfl) ?_
  obtain rfl : r1 = 0 := hw
  refine lv_if_eq (tgt := 17) hx hb dX8_stretchesOf_5 (by decide) (fun c2 => ?_) (fun c2 => absurd (by decide) c2)
  refine lv_iconst (v := 0) hx hb dX8_stretchesOf_17 (by decide) ?_
  exact W.iret (v := 0) hx hb hr (fun t ht hW => ⟨⟨0, (), rfl, rfl, trivial⟩, hS.F ht⟩) hS.2.2 dX8_stretchesOf_18
def w_X8_hasStretch : List Cond := .code yX8_hasStretch cX8_hasStretch 3 (some .boolean) :: ([.methodLink RX8 47 yX8_stretchesOf, .instanceMethod yX8_stretchesOf, .selects RX8 yX8_stretchesOf yX8_stretchesOf, .initialized RX8, .code yX8_stretchesOf cX8_stretchesOf 2 (some .int), .methodLink RX8 43 yX8_hasEdition, .instanceMethod yX8_hasEdition, .selects RX8 yX8_hasEdition yX8_hasEdition, .code yX8_hasEdition cX8_hasEdition 2 (some .boolean), .fieldLink RX8 37 "LineCites$Work" "editions" "I"] ++ wsX80)
set_option maxRecDepth 20000 in
theorem g_X8_hasStretch_X8_stretchesOf : GoodIn w_X8_hasStretch (wsV RX8 47 RX8 yX8_stretchesOf w_X8_stretchesOf) := goodIn_r _ [1, 2, 3, 4, 5, 6, 7, 8, 4, 9, 10, 11, 12, 13, 14, 15, 16, 17, 18] rfl (by decide +kernel)
set_option maxHeartbeats 4000000 in
set_option maxRecDepth 100000 in
theorem c_X8_hasStretch (l : Launch) (D : va_G) (h0 : Nat) (i_e : Int32) (i_s : Int32) (b_sc : Nat) (b_sp : Nat) (b_cp : Nat) (b_sn : Nat) (b_sl : Nat) : Met l yX8_hasStretch w_X8_hasStretch ({ frames := 2, cells := 0, slots := 0, locals := 42 }) (va_Pc [.ref h0, .int i_e, .int i_s] (fun U => va_P D vwCl [(h0, .inr (8, [.ref b_sc, .ref b_sp, .ref b_cp, .ref b_sn, .ref b_sl, .int 0, .int 0, .int 0]))] U.heap ∧ va_K D vwCl [] U)) (va_Qi (fun (r : Int32) (_ : Unit) => r = 0) (fun _ _ => True) (fun _ => False)) 0 0 (fun _ => False) := by
  refine Met.ofW (cc := cX8_hasStretch) (maxL := 3) (ret := (some .boolean)) (by decide) rfl ?_
  intro p e s m args below meth c s₁ B hml hv
  obtain ⟨rfl, hP, hK⟩ := hv
  have hx := B.exec
  have hb := B.bytes
  have hr := B.returns
  have hts := atoms_spec (ws := w_X8_hasStretch) B.pre
  have hown : s.vm.findClass RX8 = some m.cls := findClass_of_methodNamed B.named
  have hlocks := B.notSynchronized
  have hS : va_S (fun _ : Nat => False) s.heap s.heap [] := va_S.rf
  have hP : va_P D vwCl [(h0, .inr (8, [.ref b_sc, .ref b_sp, .ref b_cp, .ref b_sn, .ref b_sl, .int 0, .int 0, .int 0]))] s.heap := hP
  have hl := lv_entry ([.ref h0, .int i_e, .int i_s]) (n := 3) (Nat.le_of_ble_eq_true rfl)
  rw [lg_entry_eq]
  generalize (lg_sl ([.ref h0, .int i_e, .int i_s]) ++ List.replicate (3 - (lg_sl ([.ref h0, .int i_e, .int i_s])).length) Slot.unset).toArray = ls at hl ⊢
  have hl : lv_has ls 3 [(0, .ref h0), (1, .int i_e), (2, .int i_s)] := hl
  obtain ⟨H, hHe⟩ : ∃ H : Heap, H = s.heap := ⟨_, rfl⟩
  rw [← hHe] at hP
  have hS : va_S (fun _ : Nat => False) s.heap H [] := by rw [hHe]; exact hS
  refine pw_heap hHe ?_
  refine lv_iload_n hx hb dX8_hasStretch_0 rfl (lv_at hl 2 rfl) ?_
  refine lv_if_lt (tgt := 17) hx hb dX8_hasStretch_1 (by decide) (fun c1 => ?_) (fun c1 => ?_)
  · have nc1 : i_s.toInt < 0 := pw_lt c1 rfl (by decide)
    refine lv_iconst (v := 0) hx hb dX8_hasStretch_17 (by decide) ?_
    exact W.zret (v := 0) (ty := .boolean) hx hb hr rfl (fun t ht hW => ⟨⟨0, (), rfl, rfl, trivial⟩, hS.F ht⟩) hS.2.2 dX8_hasStretch_18
  · have nc1 : 0 ≤ i_s.toInt := pw_nlt c1 rfl (by decide)
    refine lv_iload_n hx hb dX8_hasStretch_4 rfl (lv_at hl 2 rfl) ?_
    refine lv_aload_n hx hb dX8_hasStretch_5 rfl (lv_at hl 0 rfl) ?_
    refine lv_iload_n hx hb dX8_hasStretch_6 rfl (lv_at hl 1 rfl) ?_
    have hPc := hP.sub (ws' := [(h0, .inr (8, [.ref b_sc, .ref b_sp, .ref b_cp, .ref b_sn, .ref b_sl, .int 0, .int 0, .int 0]))]) [0] rfl
    have hKc := hK.sub (tys' := []) [] rfl
    refine va_calli (va_runV (As := [.int i_e]) (rest := [.int i_s]) ⟨hx, hb, hml, hown, hts⟩ (c_X8_stretchesOf l D h0 i_e b_sc b_sp b_cp b_sn b_sl) (cwV 1 hts g_X8_hasStretch_X8_stretchesOf rfl rfl rfl (by decide +kernel) ⟨Nat.le_of_ble_eq_true rfl, Nat.le_of_ble_eq_true rfl⟩) ⟨fun a U g mk q => by obtain ⟨q0, qP, qK⟩ := q; exact ⟨q0, qP, va_K.moved (u := U) (U := U.calling g mk a) (Vm.Alike.refl U.vm) qK⟩, va_recv hKc hPc (ci := 8) (q0 := 0) rfl rfl, fun U hU hW => ⟨rfl, by rw [hU]; exact hPc, va_K.moved hW.alike hKc⟩⟩ rfl rfl hl.1 rfl (lv_room (Nat.le_of_ble_eq_true rfl)) dX8_hasStretch_7 ⟨Nat.le_of_ble_eq_true rfl, Nat.le_of_ble_eq_true rfl⟩) hS (fun _ _ h => h.elim) (fun _ h => h.elim) (fun r2 u t H1 locs ht hvm hw hB hz1 hk1 hS => ?_)
    have hP := pw_keep hP (fun q hq => hk1 q hq (fun h => h))
    generalize H1 = H at hP hS ⊢
    refine W.widen (k := 0) (n := 0) (Nat.le_of_ble_eq_true rfl) (Nat.le_of_ble_eq_true rfl) ?_
    obtain rfl : r2 = 0 := hw
    refine lv_icmp_ge (tgt := 17) hx hb dX8_hasStretch_10 (by decide) (fun c3 => ?_) (fun c3 => False.elim (by have nn : i_s.toInt < 0 := pw_nle c3 (by decide) rfl; omega))
    have nc3 : 0 ≤ i_s.toInt := pw_le c3 (by decide) rfl
    refine lv_iconst (v := 0) hx hb dX8_hasStretch_17 (by decide) ?_
    exact W.zret (v := 0) (ty := .boolean) hx hb hr rfl (fun t ht hW => ⟨⟨0, (), rfl, rfl, trivial⟩, hS.F ht⟩) hS.2.2 dX8_hasStretch_18
def w_X8_hasLine : List Cond := .code yX8_hasLine cX8_hasLine 2 (some .boolean) :: ([.fieldLink RX8 33 "LineCites$Work" "lines" "I"] ++ wsX80)
set_option maxHeartbeats 4000000 in
set_option maxRecDepth 100000 in
theorem c_X8_hasLine (l : Launch) (D : va_G) (h0 : Nat) (i_n : Int32) (b_sc : Nat) (b_sp : Nat) (b_cp : Nat) (b_sn : Nat) (b_sl : Nat) : Met l yX8_hasLine w_X8_hasLine ({ frames := 0, cells := 0, slots := 0, locals := 0 }) (va_Pc [.ref h0, .int i_n] (fun U => va_P D vwCl [(h0, .inr (8, [.ref b_sc, .ref b_sp, .ref b_cp, .ref b_sn, .ref b_sl, .int 0, .int 0, .int 0]))] U.heap ∧ va_K D vwCl [] U)) (va_Qi (fun (r : Int32) (_ : Unit) => r = 0) (fun _ _ => True) (fun _ => False)) 0 0 (fun _ => False) := by
  refine Met.ofW (cc := cX8_hasLine) (maxL := 2) (ret := (some .boolean)) (by decide) rfl ?_
  intro p e s m args below meth c s₁ B hml hv
  obtain ⟨rfl, hP, hK⟩ := hv
  have hx := B.exec
  have hb := B.bytes
  have hr := B.returns
  have hts := atoms_spec (ws := w_X8_hasLine) B.pre
  have hown : s.vm.findClass RX8 = some m.cls := findClass_of_methodNamed B.named
  have hlocks := B.notSynchronized
  have hS : va_S (fun _ : Nat => False) s.heap s.heap [] := va_S.rf
  have hP : va_P D vwCl [(h0, .inr (8, [.ref b_sc, .ref b_sp, .ref b_cp, .ref b_sn, .ref b_sl, .int 0, .int 0, .int 0]))] s.heap := hP
  have hl := lv_entry ([.ref h0, .int i_n]) (n := 2) (Nat.le_of_ble_eq_true rfl)
  rw [lg_entry_eq]
  generalize (lg_sl ([.ref h0, .int i_n]) ++ List.replicate (2 - (lg_sl ([.ref h0, .int i_n])).length) Slot.unset).toArray = ls at hl ⊢
  have hl : lv_has ls 2 [(0, .ref h0), (1, .int i_n)] := hl
  obtain ⟨H, hHe⟩ : ∃ H : Heap, H = s.heap := ⟨_, rfl⟩
  rw [← hHe] at hP
  have hS : va_S (fun _ : Nat => False) s.heap H [] := by rw [hHe]; exact hS
  refine pw_heap hHe ?_
  refine lv_iload_n hx hb dX8_hasLine_0 rfl (lv_at hl 1 rfl) ?_
  refine lv_if_lt (tgt := 16) hx hb dX8_hasLine_1 (by decide) (fun c1 => ?_) (fun c1 => ?_)
  · have nc1 : i_n.toInt < 0 := pw_lt c1 rfl (by decide)
    refine lv_iconst (v := 0) hx hb dX8_hasLine_16 (by decide) ?_
    exact W.zret (v := 0) (ty := .boolean) hx hb hr rfl (fun t ht hW => ⟨⟨0, (), rfl, rfl, trivial⟩, hS.F ht⟩) hS.2.2 dX8_hasLine_17
  · have nc1 : 0 ≤ i_n.toInt := pw_nlt c1 rfl (by decide)
    refine lv_iload_n hx hb dX8_hasLine_4 rfl (lv_at hl 1 rfl) ?_
    refine lv_aload_n hx hb dX8_hasLine_5 rfl (lv_at hl 0 rfl) ?_
    refine va_get (D := D) (ci := 8) (v := .int 0) (C := RX8) (T := TX8) (N := 8) hx hb hts (fun _ h => List.mem_cons_of_mem _ (List.mem_append_right _ h)) hown hK hP 0 rfl rfl 5 (by decide) (hts (.fieldLink RX8 33 "LineCites$Work" "lines" "I") (List.mem_of_getElem? (i := 1) rfl)) (fun _ h9 => h9) rfl dX8_hasLine_6 ?_
    refine lv_icmp_ge (tgt := 16) hx hb dX8_hasLine_9 (by decide) (fun c2 => ?_) (fun c2 => False.elim (by have nn : i_n.toInt < 0 := pw_nle c2 (by decide) rfl; omega))
    have nc2 : 0 ≤ i_n.toInt := pw_le c2 (by decide) rfl
    refine lv_iconst (v := 0) hx hb dX8_hasLine_16 (by decide) ?_
    exact W.zret (v := 0) (ty := .boolean) hx hb hr rfl (fun t ht hW => ⟨⟨0, (), rfl, rfl, trivial⟩, hS.F ht⟩) hS.2.2 dX8_hasLine_17
def w_X8_lines : List Cond := .code yX8_lines cX8_lines 1 (some .int) :: ([.fieldLink RX8 33 "LineCites$Work" "lines" "I"] ++ wsX80)
set_option maxHeartbeats 4000000 in
set_option maxRecDepth 100000 in
theorem c_X8_lines (l : Launch) (D : va_G) (h0 : Nat) (b_sc : Nat) (b_sp : Nat) (b_cp : Nat) (b_sn : Nat) (b_sl : Nat) : Met l yX8_lines w_X8_lines ({ frames := 0, cells := 0, slots := 0, locals := 0 }) (va_Pc [.ref h0] (fun U => va_P D vwCl [(h0, .inr (8, [.ref b_sc, .ref b_sp, .ref b_cp, .ref b_sn, .ref b_sl, .int 0, .int 0, .int 0]))] U.heap ∧ va_K D vwCl [] U)) (va_Qi (fun (r : Int32) (_ : Unit) => r = 0) (fun _ _ => True) (fun _ => False)) 0 0 (fun _ => False) := by
  refine Met.ofW (cc := cX8_lines) (maxL := 1) (ret := (some .int)) (by decide) rfl ?_
  intro p e s m args below meth c s₁ B hml hv
  obtain ⟨rfl, hP, hK⟩ := hv
  have hx := B.exec
  have hb := B.bytes
  have hr := B.returns
  have hts := atoms_spec (ws := w_X8_lines) B.pre
  have hown : s.vm.findClass RX8 = some m.cls := findClass_of_methodNamed B.named
  have hlocks := B.notSynchronized
  have hS : va_S (fun _ : Nat => False) s.heap s.heap [] := va_S.rf
  have hP : va_P D vwCl [(h0, .inr (8, [.ref b_sc, .ref b_sp, .ref b_cp, .ref b_sn, .ref b_sl, .int 0, .int 0, .int 0]))] s.heap := hP
  have hl := lv_entry ([.ref h0]) (n := 1) (Nat.le_of_ble_eq_true rfl)
  rw [lg_entry_eq]
  generalize (lg_sl ([.ref h0]) ++ List.replicate (1 - (lg_sl ([.ref h0])).length) Slot.unset).toArray = ls at hl ⊢
  have hl : lv_has ls 1 [(0, .ref h0)] := hl
  obtain ⟨H, hHe⟩ : ∃ H : Heap, H = s.heap := ⟨_, rfl⟩
  rw [← hHe] at hP
  have hS : va_S (fun _ : Nat => False) s.heap H [] := by rw [hHe]; exact hS
  refine pw_heap hHe ?_
  refine lv_aload_n hx hb dX8_lines_0 rfl (lv_at hl 0 rfl) ?_
  refine va_get (D := D) (ci := 8) (v := .int 0) (C := RX8) (T := TX8) (N := 8) hx hb hts (fun _ h => List.mem_cons_of_mem _ (List.mem_append_right _ h)) hown hK hP 0 rfl rfl 5 (by decide) (hts (.fieldLink RX8 33 "LineCites$Work" "lines" "I") (List.mem_of_getElem? (i := 1) rfl)) (fun _ h9 => h9) rfl dX8_lines_1 ?_
  exact W.iret (v := 0) hx hb hr (fun t ht hW => ⟨⟨0, (), rfl, rfl, trivial⟩, hS.F ht⟩) hS.2.2 dX8_lines_4
def w_X8_editions : List Cond := .code yX8_editions cX8_editions 1 (some .int) :: ([.fieldLink RX8 37 "LineCites$Work" "editions" "I"] ++ wsX80)
set_option maxHeartbeats 4000000 in
set_option maxRecDepth 100000 in
theorem c_X8_editions (l : Launch) (D : va_G) (h0 : Nat) (b_sc : Nat) (b_sp : Nat) (b_cp : Nat) (b_sn : Nat) (b_sl : Nat) : Met l yX8_editions w_X8_editions ({ frames := 0, cells := 0, slots := 0, locals := 0 }) (va_Pc [.ref h0] (fun U => va_P D vwCl [(h0, .inr (8, [.ref b_sc, .ref b_sp, .ref b_cp, .ref b_sn, .ref b_sl, .int 0, .int 0, .int 0]))] U.heap ∧ va_K D vwCl [] U)) (va_Qi (fun (r : Int32) (_ : Unit) => r = 0) (fun _ _ => True) (fun _ => False)) 0 0 (fun _ => False) := by
  refine Met.ofW (cc := cX8_editions) (maxL := 1) (ret := (some .int)) (by decide) rfl ?_
  intro p e s m args below meth c s₁ B hml hv
  obtain ⟨rfl, hP, hK⟩ := hv
  have hx := B.exec
  have hb := B.bytes
  have hr := B.returns
  have hts := atoms_spec (ws := w_X8_editions) B.pre
  have hown : s.vm.findClass RX8 = some m.cls := findClass_of_methodNamed B.named
  have hlocks := B.notSynchronized
  have hS : va_S (fun _ : Nat => False) s.heap s.heap [] := va_S.rf
  have hP : va_P D vwCl [(h0, .inr (8, [.ref b_sc, .ref b_sp, .ref b_cp, .ref b_sn, .ref b_sl, .int 0, .int 0, .int 0]))] s.heap := hP
  have hl := lv_entry ([.ref h0]) (n := 1) (Nat.le_of_ble_eq_true rfl)
  rw [lg_entry_eq]
  generalize (lg_sl ([.ref h0]) ++ List.replicate (1 - (lg_sl ([.ref h0])).length) Slot.unset).toArray = ls at hl ⊢
  have hl : lv_has ls 1 [(0, .ref h0)] := hl
  obtain ⟨H, hHe⟩ : ∃ H : Heap, H = s.heap := ⟨_, rfl⟩
  rw [← hHe] at hP
  have hS : va_S (fun _ : Nat => False) s.heap H [] := by rw [hHe]; exact hS
  refine pw_heap hHe ?_
  refine lv_aload_n hx hb dX8_editions_0 rfl (lv_at hl 0 rfl) ?_
  refine va_get (D := D) (ci := 8) (v := .int 0) (C := RX8) (T := TX8) (N := 8) hx hb hts (fun _ h => List.mem_cons_of_mem _ (List.mem_append_right _ h)) hown hK hP 0 rfl rfl 6 (by decide) (hts (.fieldLink RX8 37 "LineCites$Work" "editions" "I") (List.mem_of_getElem? (i := 1) rfl)) (fun _ h9 => h9) rfl dX8_editions_1 ?_
  exact W.iret (v := 0) hx hb hr (fun t ht hW => ⟨⟨0, (), rfl, rfl, trivial⟩, hS.F ht⟩) hS.2.2 dX8_editions_4
def w_X8_seen : List Cond := .code yX8_seen cX8_seen 1 (some .int) :: ([.fieldLink RX8 40 "LineCites$Work" "seen" "I"] ++ wsX80)
set_option maxHeartbeats 4000000 in
set_option maxRecDepth 100000 in
theorem c_X8_seen (l : Launch) (D : va_G) (h0 : Nat) (b_sc : Nat) (b_sp : Nat) (b_cp : Nat) (b_sn : Nat) (b_sl : Nat) : Met l yX8_seen w_X8_seen ({ frames := 0, cells := 0, slots := 0, locals := 0 }) (va_Pc [.ref h0] (fun U => va_P D vwCl [(h0, .inr (8, [.ref b_sc, .ref b_sp, .ref b_cp, .ref b_sn, .ref b_sl, .int 0, .int 0, .int 0]))] U.heap ∧ va_K D vwCl [] U)) (va_Qi (fun (r : Int32) (_ : Unit) => r = 0) (fun _ _ => True) (fun _ => False)) 0 0 (fun _ => False) := by
  refine Met.ofW (cc := cX8_seen) (maxL := 1) (ret := (some .int)) (by decide) rfl ?_
  intro p e s m args below meth c s₁ B hml hv
  obtain ⟨rfl, hP, hK⟩ := hv
  have hx := B.exec
  have hb := B.bytes
  have hr := B.returns
  have hts := atoms_spec (ws := w_X8_seen) B.pre
  have hown : s.vm.findClass RX8 = some m.cls := findClass_of_methodNamed B.named
  have hlocks := B.notSynchronized
  have hS : va_S (fun _ : Nat => False) s.heap s.heap [] := va_S.rf
  have hP : va_P D vwCl [(h0, .inr (8, [.ref b_sc, .ref b_sp, .ref b_cp, .ref b_sn, .ref b_sl, .int 0, .int 0, .int 0]))] s.heap := hP
  have hl := lv_entry ([.ref h0]) (n := 1) (Nat.le_of_ble_eq_true rfl)
  rw [lg_entry_eq]
  generalize (lg_sl ([.ref h0]) ++ List.replicate (1 - (lg_sl ([.ref h0])).length) Slot.unset).toArray = ls at hl ⊢
  have hl : lv_has ls 1 [(0, .ref h0)] := hl
  obtain ⟨H, hHe⟩ : ∃ H : Heap, H = s.heap := ⟨_, rfl⟩
  rw [← hHe] at hP
  have hS : va_S (fun _ : Nat => False) s.heap H [] := by rw [hHe]; exact hS
  refine pw_heap hHe ?_
  refine lv_aload_n hx hb dX8_seen_0 rfl (lv_at hl 0 rfl) ?_
  refine va_get (D := D) (ci := 8) (v := .int 0) (C := RX8) (T := TX8) (N := 8) hx hb hts (fun _ h => List.mem_cons_of_mem _ (List.mem_append_right _ h)) hown hK hP 0 rfl rfl 7 (by decide) (hts (.fieldLink RX8 40 "LineCites$Work" "seen" "I") (List.mem_of_getElem? (i := 1) rfl)) (fun _ h9 => h9) rfl dX8_seen_1 ?_
  exact W.iret (v := 0) hx hb hr (fun t ht hW => ⟨⟨0, (), rfl, rfl, trivial⟩, hS.F ht⟩) hS.2.2 dX8_seen_4
def w_X8_stretches : List Cond := .code yX8_stretches cX8_stretches 3 (some .int) :: ([.fieldLink RX8 37 "LineCites$Work" "editions" "I"] ++ wsX80)
set_option maxHeartbeats 4000000 in
set_option maxRecDepth 100000 in
theorem c_X8_stretches (l : Launch) (D : va_G) (h0 : Nat) (b_sc : Nat) (b_sp : Nat) (b_cp : Nat) (b_sn : Nat) (b_sl : Nat) : Met l yX8_stretches w_X8_stretches ({ frames := 0, cells := 0, slots := 0, locals := 0 }) (va_Pc [.ref h0] (fun U => va_P D vwCl [(h0, .inr (8, [.ref b_sc, .ref b_sp, .ref b_cp, .ref b_sn, .ref b_sl, .int 0, .int 0, .int 0]))] U.heap ∧ va_K D vwCl [] U)) (va_Qi (fun (r : Int32) (_ : Unit) => r = 0) (fun _ _ => True) (fun _ => False)) 0 0 (fun _ => False) := by
  refine Met.ofW (cc := cX8_stretches) (maxL := 3) (ret := (some .int)) (by decide) rfl ?_
  intro p e s m args below meth c s₁ B hml hv
  obtain ⟨rfl, hP, hK⟩ := hv
  have hx := B.exec
  have hb := B.bytes
  have hr := B.returns
  have hts := atoms_spec (ws := w_X8_stretches) B.pre
  have hown : s.vm.findClass RX8 = some m.cls := findClass_of_methodNamed B.named
  have hlocks := B.notSynchronized
  have hS : va_S (fun _ : Nat => False) s.heap s.heap [] := va_S.rf
  have hP : va_P D vwCl [(h0, .inr (8, [.ref b_sc, .ref b_sp, .ref b_cp, .ref b_sn, .ref b_sl, .int 0, .int 0, .int 0]))] s.heap := hP
  have hl := lv_entry ([.ref h0]) (n := 3) (Nat.le_of_ble_eq_true rfl)
  rw [lg_entry_eq]
  generalize (lg_sl ([.ref h0]) ++ List.replicate (3 - (lg_sl ([.ref h0])).length) Slot.unset).toArray = ls at hl ⊢
  have hl : lv_has ls 3 [(0, .ref h0)] := hl
  obtain ⟨H, hHe⟩ : ∃ H : Heap, H = s.heap := ⟨_, rfl⟩
  rw [← hHe] at hP
  have hS : va_S (fun _ : Nat => False) s.heap H [] := by rw [hHe]; exact hS
  refine pw_heap hHe ?_
  refine lv_iconst (v := 0) hx hb dX8_stretches_0 (by decide) ?_
  refine lv_istore_n (lv' := [(1, .int 0), (0, .ref h0)]) hx hb dX8_stretches_1 rfl hl (by decide) rfl (fun ls hl => ?_)
  refine lv_iconst (v := 0) hx hb dX8_stretches_2 (by decide) ?_
  refine lv_istore_n (lv' := [(2, .int 0), (1, .int 0), (0, .ref h0)]) hx hb dX8_stretches_3 rfl hl (by decide) rfl (fun ls hl => ?_)
  refine lv_iload_n hx hb dX8_stretches_4 rfl (lv_at hl 0 rfl) ?_
  refine lv_aload_n hx hb dX8_stretches_5 rfl (lv_at hl 2 rfl) ?_
  refine va_get (D := D) (ci := 8) (v := .int 0) (C := RX8) (T := TX8) (N := 8) hx hb hts (fun _ h => List.mem_cons_of_mem _ (List.mem_append_right _ h)) hown hK hP 0 rfl rfl 6 (by decide) (hts (.fieldLink RX8 37 "LineCites$Work" "editions" "I") (List.mem_of_getElem? (i := 1) rfl)) (fun _ h9 => h9) rfl dX8_stretches_6 ?_
  refine lv_icmp_ge (tgt := 26) hx hb dX8_stretches_9 (by decide) (fun c1 => ?_) (fun c1 => absurd (by decide) c1)
  refine lv_iload_n hx hb dX8_stretches_26 rfl (lv_at hl 1 rfl) ?_
  exact W.iret (v := 0) hx hb hr (fun t ht hW => ⟨⟨0, (), rfl, rfl, trivial⟩, hS.F ht⟩) hS.2.2 dX8_stretches_27
def w_X8_citedPart : List Cond := .code yX8_citedPart cX8_citedPart 4 (some .int) :: ([.fieldLink RX8 18 "LineCites$Work" "citedParts" "[I"] ++ wsX80)
set_option maxHeartbeats 4000000 in
set_option maxRecDepth 100000 in
theorem c_X8_citedPart (l : Launch) (D : va_G) (h0 : Nat) (i_c : Int32) (i_w : Int32) (b_sc : Nat) (b_sp : Nat) (b_cp : Nat) (b_sn : Nat) (b_sl : Nat) (k_c : ClassId) : Met l yX8_citedPart w_X8_citedPart ({ frames := 0, cells := 0, slots := 0, locals := 0 }) (va_Pc [.ref h0, .int i_c, .int i_w] (fun U => va_P D vwCl [(h0, .inr (8, [.ref b_sc, .ref b_sp, .ref b_cp, .ref b_sn, .ref b_sl, .int 0, .int 0, .int 0])), (b_cp, .inl (k_c, 32, .inl (fun _ => 0)))] U.heap ∧ va_K D vwCl [(k_c, .int)] U)) (va_Qi (fun (r : Int32) (_ : Unit) => r = 0) (fun _ _ => True) (fun _ => False)) 0 0 (fun _ => False) := by
  refine Met.ofW (cc := cX8_citedPart) (maxL := 4) (ret := (some .int)) (by decide) rfl ?_
  intro p e s m args below meth c s₁ B hml hv
  obtain ⟨rfl, hP, hK⟩ := hv
  have hx := B.exec
  have hb := B.bytes
  have hr := B.returns
  have hts := atoms_spec (ws := w_X8_citedPart) B.pre
  have hown : s.vm.findClass RX8 = some m.cls := findClass_of_methodNamed B.named
  have hlocks := B.notSynchronized
  have hS : va_S (fun _ : Nat => False) s.heap s.heap [] := va_S.rf
  have hP : va_P D vwCl [(h0, .inr (8, [.ref b_sc, .ref b_sp, .ref b_cp, .ref b_sn, .ref b_sl, .int 0, .int 0, .int 0])), (b_cp, .inl (k_c, 32, .inl (fun _ => 0)))] s.heap := hP
  have hl := lv_entry ([.ref h0, .int i_c, .int i_w]) (n := 4) (Nat.le_of_ble_eq_true rfl)
  rw [lg_entry_eq]
  generalize (lg_sl ([.ref h0, .int i_c, .int i_w]) ++ List.replicate (4 - (lg_sl ([.ref h0, .int i_c, .int i_w])).length) Slot.unset).toArray = ls at hl ⊢
  have hl : lv_has ls 4 [(0, .ref h0), (1, .int i_c), (2, .int i_w)] := hl
  obtain ⟨H, hHe⟩ : ∃ H : Heap, H = s.heap := ⟨_, rfl⟩
  rw [← hHe] at hP
  have hS : va_S (fun _ : Nat => False) s.heap H [] := by rw [hHe]; exact hS
  refine pw_heap hHe ?_
  refine lv_iload_n hx hb dX8_citedPart_0 rfl (lv_at hl 1 rfl) ?_
  refine lv_iconst (v := 4) hx hb dX8_citedPart_1 (by decide) ?_
  refine lv_imul hx hb dX8_citedPart_2 ?_
  refine lv_topi (fun x1 ex1 => ?_)
  refine lv_iload_n hx hb dX8_citedPart_3 rfl (lv_at hl 2 rfl) ?_
  refine lv_iadd hx hb dX8_citedPart_4 ?_
  refine lv_topi (fun x2 ex2 => ?_)
  refine lv_istore_n (lv' := [(3, .int x2), (0, .ref h0), (1, .int i_c), (2, .int i_w)]) hx hb dX8_citedPart_5 rfl hl (by decide) rfl (fun ls hl => ?_)
  refine lv_iload_n hx hb dX8_citedPart_6 rfl (lv_at hl 0 rfl) ?_
  refine lv_if_lt (tgt := 19) hx hb dX8_citedPart_7 (by decide) (fun c3 => ?_) (fun c3 => ?_)
  · have nc3 : x2.toInt < 0 := pw_lt c3 rfl (by decide)
    refine lv_iconst (v := 0) hx hb dX8_citedPart_19 (by decide) ?_
    refine lv_goto (tgt := 29) hx hb dX8_citedPart_20 (by decide) ?_
    exact W.iret (v := 0) hx hb hr (fun t ht hW => ⟨⟨0, (), rfl, rfl, trivial⟩, hS.F ht⟩) hS.2.2 dX8_citedPart_29
  · have nc3 : 0 ≤ x2.toInt := pw_nlt c3 rfl (by decide)
    refine lv_iload_n hx hb dX8_citedPart_10 rfl (lv_at hl 0 rfl) ?_
    refine lv_aload_n hx hb dX8_citedPart_11 rfl (lv_at hl 1 rfl) ?_
    refine va_get (D := D) (ci := 8) (v := .ref b_cp) (C := RX8) (T := TX8) (N := 8) hx hb hts (fun _ h => List.mem_cons_of_mem _ (List.mem_append_right _ h)) hown hK hP 0 rfl rfl 2 (by decide) (hts (.fieldLink RX8 18 "LineCites$Work" "citedParts" "[I") (List.mem_of_getElem? (i := 1) rfl)) (fun _ h9 => h9) rfl dX8_citedPart_12 ?_
    refine va_alen (v := 32) hx hb hK hP 1 0 rfl rfl (by decide) dX8_citedPart_15 ?_
    refine lv_icmp_lt (tgt := 23) hx hb dX8_citedPart_16 (by decide) (fun c4 => ?_) (fun c4 => ?_)
    · have nc4 : x2.toInt < 32 := pw_lt c4 rfl (by decide)
      refine lv_aload_n hx hb dX8_citedPart_23 rfl (lv_at hl 1 rfl) ?_
      refine va_get (D := D) (ci := 8) (v := .ref b_cp) (C := RX8) (T := TX8) (N := 8) hx hb hts (fun _ h => List.mem_cons_of_mem _ (List.mem_append_right _ h)) hown hK hP 0 rfl rfl 2 (by decide) (hts (.fieldLink RX8 18 "LineCites$Work" "citedParts" "[I") (List.mem_of_getElem? (i := 1) rfl)) (fun _ h9 => h9) rfl dX8_citedPart_24 ?_
      refine lv_iload_n hx hb dX8_citedPart_27 rfl (lv_at hl 0 rfl) ?_
      refine va_iald hx hb hK hP 1 0 rfl rfl (vp_in_iff.mpr ⟨by omega, by omega⟩) dX8_citedPart_28 ?_
      refine lv_topi (fun x5 ex5 => ?_)
      obtain rfl : x5 = 0 := ex5
      exact W.iret (v := 0) hx hb hr (fun t ht hW => ⟨⟨0, (), rfl, rfl, trivial⟩, hS.F ht⟩) hS.2.2 dX8_citedPart_29
    · have nc4 : 32 ≤ x2.toInt := pw_nlt c4 rfl (by decide)
      refine lv_iconst (v := 0) hx hb dX8_citedPart_19 (by decide) ?_
      refine lv_goto (tgt := 29) hx hb dX8_citedPart_20 (by decide) ?_
      exact W.iret (v := 0) hx hb hr (fun t ht hW => ⟨⟨0, (), rfl, rfl, trivial⟩, hS.F ht⟩) hS.2.2 dX8_citedPart_29
def w_X8_hasCitation : List Cond := .code yX8_hasCitation cX8_hasCitation 2 (some .boolean) :: ([.methodLink RX8 89 yX8_citedPart, .instanceMethod yX8_citedPart, .selects RX8 yX8_citedPart yX8_citedPart, .initialized RX8, .code yX8_citedPart cX8_citedPart 4 (some .int), .fieldLink RX8 18 "LineCites$Work" "citedParts" "[I"] ++ wsX80)
set_option maxRecDepth 20000 in
theorem g_X8_hasCitation_X8_citedPart : GoodIn w_X8_hasCitation (wsV RX8 89 RX8 yX8_citedPart w_X8_citedPart) := goodIn_r _ [1, 2, 3, 4, 5, 6, 7, 8, 9, 10, 11, 12, 13, 14] rfl (by decide +kernel)
set_option maxHeartbeats 4000000 in
set_option maxRecDepth 100000 in
theorem c_X8_hasCitation (l : Launch) (D : va_G) (h0 : Nat) (i_c : Int32) (b_sc : Nat) (b_sp : Nat) (b_cp : Nat) (b_sn : Nat) (b_sl : Nat) (k_c : ClassId) : Met l yX8_hasCitation w_X8_hasCitation ({ frames := 1, cells := 0, slots := 0, locals := 23 }) (va_Pc [.ref h0, .int i_c] (fun U => va_P D vwCl [(h0, .inr (8, [.ref b_sc, .ref b_sp, .ref b_cp, .ref b_sn, .ref b_sl, .int 0, .int 0, .int 0])), (b_cp, .inl (k_c, 32, .inl (fun _ => 0)))] U.heap ∧ va_K D vwCl [(k_c, .int)] U)) (va_Qi (fun (r : Int32) (_ : Unit) => r = 0) (fun _ _ => True) (fun _ => False)) 0 0 (fun _ => False) := by
  refine Met.ofW (cc := cX8_hasCitation) (maxL := 2) (ret := (some .boolean)) (by decide) rfl ?_
  intro p e s m args below meth c s₁ B hml hv
  obtain ⟨rfl, hP, hK⟩ := hv
  have hx := B.exec
  have hb := B.bytes
  have hr := B.returns
  have hts := atoms_spec (ws := w_X8_hasCitation) B.pre
  have hown : s.vm.findClass RX8 = some m.cls := findClass_of_methodNamed B.named
  have hlocks := B.notSynchronized
  have hS : va_S (fun _ : Nat => False) s.heap s.heap [] := va_S.rf
  have hP : va_P D vwCl [(h0, .inr (8, [.ref b_sc, .ref b_sp, .ref b_cp, .ref b_sn, .ref b_sl, .int 0, .int 0, .int 0])), (b_cp, .inl (k_c, 32, .inl (fun _ => 0)))] s.heap := hP
  have hl := lv_entry ([.ref h0, .int i_c]) (n := 2) (Nat.le_of_ble_eq_true rfl)
  rw [lg_entry_eq]
  generalize (lg_sl ([.ref h0, .int i_c]) ++ List.replicate (2 - (lg_sl ([.ref h0, .int i_c])).length) Slot.unset).toArray = ls at hl ⊢
  have hl : lv_has ls 2 [(0, .ref h0), (1, .int i_c)] := hl
  obtain ⟨H, hHe⟩ : ∃ H : Heap, H = s.heap := ⟨_, rfl⟩
  rw [← hHe] at hP
  have hS : va_S (fun _ : Nat => False) s.heap H [] := by rw [hHe]; exact hS
  refine pw_heap hHe ?_
  refine lv_iload_n hx hb dX8_hasCitation_0 rfl (lv_at hl 1 rfl) ?_
  refine lv_if_lt (tgt := 23) hx hb dX8_hasCitation_1 (by decide) (fun c1 => ?_) (fun c1 => ?_)
  · have nc1 : i_c.toInt < 0 := pw_lt c1 rfl (by decide)
    refine lv_iconst (v := 0) hx hb dX8_hasCitation_23 (by decide) ?_
    exact W.zret (v := 0) (ty := .boolean) hx hb hr rfl (fun t ht hW => ⟨⟨0, (), rfl, rfl, trivial⟩, hS.F ht⟩) hS.2.2 dX8_hasCitation_24
  · have nc1 : 0 ≤ i_c.toInt := pw_nlt c1 rfl (by decide)
    refine lv_iload_n hx hb dX8_hasCitation_4 rfl (lv_at hl 1 rfl) ?_
    refine lv_bipush (v := 8) hx hb dX8_hasCitation_5 (by decide) ?_
    refine lv_icmp_ge (tgt := 23) hx hb dX8_hasCitation_7 (by decide) (fun c2 => ?_) (fun c2 => ?_)
    · have nc2 : 8 ≤ i_c.toInt := pw_le c2 (by decide) rfl
      refine lv_iconst (v := 0) hx hb dX8_hasCitation_23 (by decide) ?_
      exact W.zret (v := 0) (ty := .boolean) hx hb hr rfl (fun t ht hW => ⟨⟨0, (), rfl, rfl, trivial⟩, hS.F ht⟩) hS.2.2 dX8_hasCitation_24
    · have nc2 : i_c.toInt < 8 := pw_nle c2 (by decide) rfl
      refine lv_aload_n hx hb dX8_hasCitation_10 rfl (lv_at hl 0 rfl) ?_
      refine lv_iload_n hx hb dX8_hasCitation_11 rfl (lv_at hl 1 rfl) ?_
      refine lv_iconst (v := 2) hx hb dX8_hasCitation_12 (by decide) ?_
      have hPc := hP.sub (ws' := [(h0, .inr (8, [.ref b_sc, .ref b_sp, .ref b_cp, .ref b_sn, .ref b_sl, .int 0, .int 0, .int 0])), (b_cp, .inl (k_c, 32, .inl (fun _ => 0)))]) [0, 1] rfl
      have hKc := hK.sub (tys' := [(k_c, .int)]) [0] rfl
      refine va_calli (va_runV (As := [.int i_c, .int 2]) (rest := []) ⟨hx, hb, hml, hown, hts⟩ (c_X8_citedPart l D h0 i_c 2 b_sc b_sp b_cp b_sn b_sl k_c) (cwV 2 hts g_X8_hasCitation_X8_citedPart rfl rfl rfl (by decide +kernel) ⟨Nat.le_of_ble_eq_true rfl, Nat.le_of_ble_eq_true rfl⟩) ⟨fun a U g mk q => by obtain ⟨q0, qP, qK⟩ := q; exact ⟨q0, qP, va_K.moved (u := U) (U := U.calling g mk a) (Vm.Alike.refl U.vm) qK⟩, va_recv hKc hPc (ci := 8) (q0 := 0) rfl rfl, fun U hU hW => ⟨rfl, by rw [hU]; exact hPc, va_K.moved hW.alike hKc⟩⟩ rfl rfl hl.1 rfl (lv_room (Nat.le_of_ble_eq_true rfl)) dX8_hasCitation_13 ⟨Nat.le_of_ble_eq_true rfl, Nat.le_of_ble_eq_true rfl⟩) hS (fun _ _ h => h.elim) (fun _ h => h.elim) (fun r3 u t H1 locs ht hvm hw hB hz1 hk1 hS => ?_)
      have hP := pw_keep hP (fun q hq => hk1 q hq (fun h => h))
      generalize H1 = H at hP hS ⊢
      refine W.widen (k := 0) (n := 0) (Nat.le_of_ble_eq_true rfl) (Nat.le_of_ble_eq_true rfl) ?_
      obtain rfl : r3 = 0 := hw
      refine lv_if_le (tgt := 23) hx hb dX8_hasCitation_16 (by decide) (fun c4 => ?_) (fun c4 => absurd (by decide) c4)
      refine lv_iconst (v := 0) hx hb dX8_hasCitation_23 (by decide) ?_
      exact W.zret (v := 0) (ty := .boolean) hx hb hr rfl (fun t ht hW => ⟨⟨0, (), rfl, rfl, trivial⟩, hS.F ht⟩) hS.2.2 dX8_hasCitation_24
def w_X8_citations : List Cond := .code yX8_citations cX8_citations 3 (some .int) :: ([.methodLink RX8 97 yX8_hasCitation, .instanceMethod yX8_hasCitation, .selects RX8 yX8_hasCitation yX8_hasCitation, .initialized RX8, .code yX8_hasCitation cX8_hasCitation 2 (some .boolean), .methodLink RX8 89 yX8_citedPart, .instanceMethod yX8_citedPart, .selects RX8 yX8_citedPart yX8_citedPart, .code yX8_citedPart cX8_citedPart 4 (some .int), .fieldLink RX8 18 "LineCites$Work" "citedParts" "[I"] ++ wsX80)
set_option maxRecDepth 20000 in
theorem g_X8_citations_X8_hasCitation : GoodIn w_X8_citations (wsV RX8 97 RX8 yX8_hasCitation w_X8_hasCitation) := goodIn_r _ [1, 2, 3, 4, 5, 6, 7, 8, 4, 9, 10, 11, 12, 13, 14, 15, 16, 17, 18] rfl (by decide +kernel)
set_option maxHeartbeats 4000000 in
set_option maxRecDepth 100000 in
theorem c_X8_citations (l : Launch) (D : va_G) (h0 : Nat) (b_sc : Nat) (b_sp : Nat) (b_cp : Nat) (b_sn : Nat) (b_sl : Nat) (k_c : ClassId) : Met l yX8_citations w_X8_citations ({ frames := 2, cells := 0, slots := 0, locals := 44 }) (va_Pc [.ref h0] (fun U => va_P D vwCl [(h0, .inr (8, [.ref b_sc, .ref b_sp, .ref b_cp, .ref b_sn, .ref b_sl, .int 0, .int 0, .int 0])), (b_cp, .inl (k_c, 32, .inl (fun _ => 0)))] U.heap ∧ va_K D vwCl [(k_c, .int)] U)) (va_Qi (fun (r : Int32) (_ : Unit) => r = 0) (fun _ _ => True) (fun _ => False)) 0 0 (fun _ => False) := by
  refine Met.ofW (cc := cX8_citations) (maxL := 3) (ret := (some .int)) (by decide) rfl ?_
  intro p e s m args below meth c s₁ B hml hv
  obtain ⟨rfl, hP, hK⟩ := hv
  have hx := B.exec
  have hb := B.bytes
  have hr := B.returns
  have hts := atoms_spec (ws := w_X8_citations) B.pre
  have hown : s.vm.findClass RX8 = some m.cls := findClass_of_methodNamed B.named
  have hlocks := B.notSynchronized
  have hS : va_S (fun _ : Nat => False) s.heap s.heap [] := va_S.rf
  have hP : va_P D vwCl [(h0, .inr (8, [.ref b_sc, .ref b_sp, .ref b_cp, .ref b_sn, .ref b_sl, .int 0, .int 0, .int 0])), (b_cp, .inl (k_c, 32, .inl (fun _ => 0)))] s.heap := hP
  have hl := lv_entry ([.ref h0]) (n := 3) (Nat.le_of_ble_eq_true rfl)
  rw [lg_entry_eq]
  generalize (lg_sl ([.ref h0]) ++ List.replicate (3 - (lg_sl ([.ref h0])).length) Slot.unset).toArray = ls at hl ⊢
  have hl : lv_has ls 3 [(0, .ref h0)] := hl
  obtain ⟨H, hHe⟩ : ∃ H : Heap, H = s.heap := ⟨_, rfl⟩
  rw [← hHe] at hP
  have hS : va_S (fun _ : Nat => False) s.heap H [] := by rw [hHe]; exact hS
  refine pw_heap hHe ?_
  refine lv_iconst (v := 0) hx hb dX8_citations_0 (by decide) ?_
  refine lv_istore_n (lv' := [(1, .int 0), (0, .ref h0)]) hx hb dX8_citations_1 rfl hl (by decide) rfl (fun ls hl => ?_)
  refine lv_iconst (v := 0) hx hb dX8_citations_2 (by decide) ?_
  refine lv_istore_n (lv' := [(2, .int 0), (1, .int 0), (0, .ref h0)]) hx hb dX8_citations_3 rfl hl (by decide) rfl (fun ls hl => ?_)
  refine lv_iload_n hx hb dX8_citations_4 rfl (lv_at hl 0 rfl) ?_
  refine lv_bipush (v := 8) hx hb dX8_citations_5 (by decide) ?_
  refine lv_icmp_ge (tgt := 27) hx hb dX8_citations_7 (by decide) (fun c1 => absurd c1 (by decide)) (fun c1 => ?_)
  refine lv_aload_n hx hb dX8_citations_10 rfl (lv_at hl 2 rfl) ?_
  refine lv_iload_n hx hb dX8_citations_11 rfl (lv_at hl 0 rfl) ?_
  have hPc := hP.sub (ws' := [(h0, .inr (8, [.ref b_sc, .ref b_sp, .ref b_cp, .ref b_sn, .ref b_sl, .int 0, .int 0, .int 0])), (b_cp, .inl (k_c, 32, .inl (fun _ => 0)))]) [0, 1] rfl
  have hKc := hK.sub (tys' := [(k_c, .int)]) [0] rfl
  refine va_calli (va_runV (As := [.int 0]) (rest := []) ⟨hx, hb, hml, hown, hts⟩ (c_X8_hasCitation l D h0 0 b_sc b_sp b_cp b_sn b_sl k_c) (cwV 1 hts g_X8_citations_X8_hasCitation rfl rfl rfl (by decide +kernel) ⟨Nat.le_of_ble_eq_true rfl, Nat.le_of_ble_eq_true rfl⟩) ⟨fun a U g mk q => by obtain ⟨q0, qP, qK⟩ := q; exact ⟨q0, qP, va_K.moved (u := U) (U := U.calling g mk a) (Vm.Alike.refl U.vm) qK⟩, va_recv hKc hPc (ci := 8) (q0 := 0) rfl rfl, fun U hU hW => ⟨rfl, by rw [hU]; exact hPc, va_K.moved hW.alike hKc⟩⟩ rfl rfl hl.1 rfl (lv_room (Nat.le_of_ble_eq_true rfl)) dX8_citations_12 ⟨Nat.le_of_ble_eq_true rfl, Nat.le_of_ble_eq_true rfl⟩) hS (fun _ _ h => h.elim) (fun _ h => h.elim) (fun r2 u t H1 locs ht hvm hw hB hz1 hk1 hS => ?_)
  have hP := pw_keep hP (fun q hq => hk1 q hq (fun h => h))
  generalize H1 = H at hP hS ⊢
  refine W.widen (k := 0) (n := 0) (Nat.le_of_ble_eq_true rfl) (Nat.le_of_ble_eq_true rfl) ?_
  obtain rfl : r2 = 0 := hw
  refine lv_if_eq (tgt := 21) hx hb dX8_citations_15 (by decide) (fun c3 => ?_) (fun c3 => absurd (by decide) c3)
  refine lv_iinc (v := 1) (lv' := [(2, .int 1), (1, .int 0), (0, .ref h0)]) hx hb dX8_citations_21 hl (k := 0) rfl (by decide) (by decide) rfl (fun ls hl => ?_)
  refine lv_goto (tgt := 4) hx hb dX8_citations_24 (by decide) ?_
  refine lv_iload_n hx hb dX8_citations_4 rfl (lv_at hl 0 rfl) ?_
  refine lv_bipush (v := 8) hx hb dX8_citations_5 (by decide) ?_
  refine lv_icmp_ge (tgt := 27) hx hb dX8_citations_7 (by decide) (fun c4 => absurd c4 (by decide)) (fun c4 => ?_)
  refine lv_aload_n hx hb dX8_citations_10 rfl (lv_at hl 2 rfl) ?_
  refine lv_iload_n hx hb dX8_citations_11 rfl (lv_at hl 0 rfl) ?_
  have hPc := hP.sub (ws' := [(h0, .inr (8, [.ref b_sc, .ref b_sp, .ref b_cp, .ref b_sn, .ref b_sl, .int 0, .int 0, .int 0])), (b_cp, .inl (k_c, 32, .inl (fun _ => 0)))]) [0, 1] rfl
  have hKc := hK.sub (tys' := [(k_c, .int)]) [0] rfl
  refine va_calli (va_runV (As := [.int 1]) (rest := []) ⟨hx, hb, hml, hown, hts⟩ (c_X8_hasCitation l D h0 1 b_sc b_sp b_cp b_sn b_sl k_c) (cwV 1 hts g_X8_citations_X8_hasCitation rfl rfl rfl (by decide +kernel) ⟨Nat.le_of_ble_eq_true rfl, Nat.le_of_ble_eq_true rfl⟩) ⟨fun a U g mk q => by obtain ⟨q0, qP, qK⟩ := q; exact ⟨q0, qP, va_K.moved (u := U) (U := U.calling g mk a) (Vm.Alike.refl U.vm) qK⟩, va_recv hKc hPc (ci := 8) (q0 := 0) rfl rfl, fun U hU hW => ⟨rfl, by rw [hU]; exact hPc, va_K.moved hW.alike hKc⟩⟩ rfl rfl hl.1 rfl (lv_room (Nat.le_of_ble_eq_true rfl)) dX8_citations_12 ⟨Nat.le_of_ble_eq_true rfl, Nat.le_of_ble_eq_true rfl⟩) hS (fun _ _ h => h.elim) (fun _ h => h.elim) (fun r5 u t H1 locs ht hvm hw hB hz1 hk1 hS => ?_)
  have hP := pw_keep hP (fun q hq => hk1 q hq (fun h => h))
  generalize H1 = H at hP hS ⊢
  refine W.widen (k := 0) (n := 0) (Nat.le_of_ble_eq_true rfl) (Nat.le_of_ble_eq_true rfl) ?_
  obtain rfl : r5 = 0 := hw
  refine lv_if_eq (tgt := 21) hx hb dX8_citations_15 (by decide) (fun c6 => ?_) (fun c6 => absurd (by decide) c6)
  refine lv_iinc (v := 2) (lv' := [(2, .int 2), (1, .int 0), (0, .ref h0)]) hx hb dX8_citations_21 hl (k := 0) rfl (by decide) (by decide) rfl (fun ls hl => ?_)
  refine lv_goto (tgt := 4) hx hb dX8_citations_24 (by decide) ?_
  refine lv_iload_n hx hb dX8_citations_4 rfl (lv_at hl 0 rfl) ?_
  refine lv_bipush (v := 8) hx hb dX8_citations_5 (by decide) ?_
  refine lv_icmp_ge (tgt := 27) hx hb dX8_citations_7 (by decide) (fun c7 => absurd c7 (by decide)) (fun c7 => ?_)
  refine lv_aload_n hx hb dX8_citations_10 rfl (lv_at hl 2 rfl) ?_
  refine lv_iload_n hx hb dX8_citations_11 rfl (lv_at hl 0 rfl) ?_
  have hPc := hP.sub (ws' := [(h0, .inr (8, [.ref b_sc, .ref b_sp, .ref b_cp, .ref b_sn, .ref b_sl, .int 0, .int 0, .int 0])), (b_cp, .inl (k_c, 32, .inl (fun _ => 0)))]) [0, 1] rfl
  have hKc := hK.sub (tys' := [(k_c, .int)]) [0] rfl
  refine va_calli (va_runV (As := [.int 2]) (rest := []) ⟨hx, hb, hml, hown, hts⟩ (c_X8_hasCitation l D h0 2 b_sc b_sp b_cp b_sn b_sl k_c) (cwV 1 hts g_X8_citations_X8_hasCitation rfl rfl rfl (by decide +kernel) ⟨Nat.le_of_ble_eq_true rfl, Nat.le_of_ble_eq_true rfl⟩) ⟨fun a U g mk q => by obtain ⟨q0, qP, qK⟩ := q; exact ⟨q0, qP, va_K.moved (u := U) (U := U.calling g mk a) (Vm.Alike.refl U.vm) qK⟩, va_recv hKc hPc (ci := 8) (q0 := 0) rfl rfl, fun U hU hW => ⟨rfl, by rw [hU]; exact hPc, va_K.moved hW.alike hKc⟩⟩ rfl rfl hl.1 rfl (lv_room (Nat.le_of_ble_eq_true rfl)) dX8_citations_12 ⟨Nat.le_of_ble_eq_true rfl, Nat.le_of_ble_eq_true rfl⟩) hS (fun _ _ h => h.elim) (fun _ h => h.elim) (fun r8 u t H1 locs ht hvm hw hB hz1 hk1 hS => ?_)
  have hP := pw_keep hP (fun q hq => hk1 q hq (fun h => h))
  generalize H1 = H at hP hS ⊢
  refine W.widen (k := 0) (n := 0) (Nat.le_of_ble_eq_true rfl) (Nat.le_of_ble_eq_true rfl) ?_
  obtain rfl : r8 = 0 := hw
  refine lv_if_eq (tgt := 21) hx hb dX8_citations_15 (by decide) (fun c9 => ?_) (fun c9 => absurd (by decide) c9)
  refine lv_iinc (v := 3) (lv' := [(2, .int 3), (1, .int 0), (0, .ref h0)]) hx hb dX8_citations_21 hl (k := 0) rfl (by decide) (by decide) rfl (fun ls hl => ?_)
  refine lv_goto (tgt := 4) hx hb dX8_citations_24 (by decide) ?_
  refine lv_iload_n hx hb dX8_citations_4 rfl (lv_at hl 0 rfl) ?_
  refine lv_bipush (v := 8) hx hb dX8_citations_5 (by decide) ?_
  refine lv_icmp_ge (tgt := 27) hx hb dX8_citations_7 (by decide) (fun c10 => absurd c10 (by decide)) (fun c10 => ?_)
  refine lv_aload_n hx hb dX8_citations_10 rfl (lv_at hl 2 rfl) ?_
  refine lv_iload_n hx hb dX8_citations_11 rfl (lv_at hl 0 rfl) ?_
  have hPc := hP.sub (ws' := [(h0, .inr (8, [.ref b_sc, .ref b_sp, .ref b_cp, .ref b_sn, .ref b_sl, .int 0, .int 0, .int 0])), (b_cp, .inl (k_c, 32, .inl (fun _ => 0)))]) [0, 1] rfl
  have hKc := hK.sub (tys' := [(k_c, .int)]) [0] rfl
  refine va_calli (va_runV (As := [.int 3]) (rest := []) ⟨hx, hb, hml, hown, hts⟩ (c_X8_hasCitation l D h0 3 b_sc b_sp b_cp b_sn b_sl k_c) (cwV 1 hts g_X8_citations_X8_hasCitation rfl rfl rfl (by decide +kernel) ⟨Nat.le_of_ble_eq_true rfl, Nat.le_of_ble_eq_true rfl⟩) ⟨fun a U g mk q => by obtain ⟨q0, qP, qK⟩ := q; exact ⟨q0, qP, va_K.moved (u := U) (U := U.calling g mk a) (Vm.Alike.refl U.vm) qK⟩, va_recv hKc hPc (ci := 8) (q0 := 0) rfl rfl, fun U hU hW => ⟨rfl, by rw [hU]; exact hPc, va_K.moved hW.alike hKc⟩⟩ rfl rfl hl.1 rfl (lv_room (Nat.le_of_ble_eq_true rfl)) dX8_citations_12 ⟨Nat.le_of_ble_eq_true rfl, Nat.le_of_ble_eq_true rfl⟩) hS (fun _ _ h => h.elim) (fun _ h => h.elim) (fun r11 u t H1 locs ht hvm hw hB hz1 hk1 hS => ?_)
  have hP := pw_keep hP (fun q hq => hk1 q hq (fun h => h))
  generalize H1 = H at hP hS ⊢
  refine W.widen (k := 0) (n := 0) (Nat.le_of_ble_eq_true rfl) (Nat.le_of_ble_eq_true rfl) ?_
  obtain rfl : r11 = 0 := hw
  refine lv_if_eq (tgt := 21) hx hb dX8_citations_15 (by decide) (fun c12 => ?_) (fun c12 => absurd (by decide) c12)
  refine lv_iinc (v := 4) (lv' := [(2, .int 4), (1, .int 0), (0, .ref h0)]) hx hb dX8_citations_21 hl (k := 0) rfl (by decide) (by decide) rfl (fun ls hl => ?_)
  refine lv_goto (tgt := 4) hx hb dX8_citations_24 (by decide) ?_
  refine lv_iload_n hx hb dX8_citations_4 rfl (lv_at hl 0 rfl) ?_
  refine lv_bipush (v := 8) hx hb dX8_citations_5 (by decide) ?_
  refine lv_icmp_ge (tgt := 27) hx hb dX8_citations_7 (by decide) (fun c13 => absurd c13 (by decide)) (fun c13 => ?_)
  refine lv_aload_n hx hb dX8_citations_10 rfl (lv_at hl 2 rfl) ?_
  refine lv_iload_n hx hb dX8_citations_11 rfl (lv_at hl 0 rfl) ?_
  have hPc := hP.sub (ws' := [(h0, .inr (8, [.ref b_sc, .ref b_sp, .ref b_cp, .ref b_sn, .ref b_sl, .int 0, .int 0, .int 0])), (b_cp, .inl (k_c, 32, .inl (fun _ => 0)))]) [0, 1] rfl
  have hKc := hK.sub (tys' := [(k_c, .int)]) [0] rfl
  refine va_calli (va_runV (As := [.int 4]) (rest := []) ⟨hx, hb, hml, hown, hts⟩ (c_X8_hasCitation l D h0 4 b_sc b_sp b_cp b_sn b_sl k_c) (cwV 1 hts g_X8_citations_X8_hasCitation rfl rfl rfl (by decide +kernel) ⟨Nat.le_of_ble_eq_true rfl, Nat.le_of_ble_eq_true rfl⟩) ⟨fun a U g mk q => by obtain ⟨q0, qP, qK⟩ := q; exact ⟨q0, qP, va_K.moved (u := U) (U := U.calling g mk a) (Vm.Alike.refl U.vm) qK⟩, va_recv hKc hPc (ci := 8) (q0 := 0) rfl rfl, fun U hU hW => ⟨rfl, by rw [hU]; exact hPc, va_K.moved hW.alike hKc⟩⟩ rfl rfl hl.1 rfl (lv_room (Nat.le_of_ble_eq_true rfl)) dX8_citations_12 ⟨Nat.le_of_ble_eq_true rfl, Nat.le_of_ble_eq_true rfl⟩) hS (fun _ _ h => h.elim) (fun _ h => h.elim) (fun r14 u t H1 locs ht hvm hw hB hz1 hk1 hS => ?_)
  have hP := pw_keep hP (fun q hq => hk1 q hq (fun h => h))
  generalize H1 = H at hP hS ⊢
  refine W.widen (k := 0) (n := 0) (Nat.le_of_ble_eq_true rfl) (Nat.le_of_ble_eq_true rfl) ?_
  obtain rfl : r14 = 0 := hw
  refine lv_if_eq (tgt := 21) hx hb dX8_citations_15 (by decide) (fun c15 => ?_) (fun c15 => absurd (by decide) c15)
  refine lv_iinc (v := 5) (lv' := [(2, .int 5), (1, .int 0), (0, .ref h0)]) hx hb dX8_citations_21 hl (k := 0) rfl (by decide) (by decide) rfl (fun ls hl => ?_)
  refine lv_goto (tgt := 4) hx hb dX8_citations_24 (by decide) ?_
  refine lv_iload_n hx hb dX8_citations_4 rfl (lv_at hl 0 rfl) ?_
  refine lv_bipush (v := 8) hx hb dX8_citations_5 (by decide) ?_
  refine lv_icmp_ge (tgt := 27) hx hb dX8_citations_7 (by decide) (fun c16 => absurd c16 (by decide)) (fun c16 => ?_)
  refine lv_aload_n hx hb dX8_citations_10 rfl (lv_at hl 2 rfl) ?_
  refine lv_iload_n hx hb dX8_citations_11 rfl (lv_at hl 0 rfl) ?_
  have hPc := hP.sub (ws' := [(h0, .inr (8, [.ref b_sc, .ref b_sp, .ref b_cp, .ref b_sn, .ref b_sl, .int 0, .int 0, .int 0])), (b_cp, .inl (k_c, 32, .inl (fun _ => 0)))]) [0, 1] rfl
  have hKc := hK.sub (tys' := [(k_c, .int)]) [0] rfl
  refine va_calli (va_runV (As := [.int 5]) (rest := []) ⟨hx, hb, hml, hown, hts⟩ (c_X8_hasCitation l D h0 5 b_sc b_sp b_cp b_sn b_sl k_c) (cwV 1 hts g_X8_citations_X8_hasCitation rfl rfl rfl (by decide +kernel) ⟨Nat.le_of_ble_eq_true rfl, Nat.le_of_ble_eq_true rfl⟩) ⟨fun a U g mk q => by obtain ⟨q0, qP, qK⟩ := q; exact ⟨q0, qP, va_K.moved (u := U) (U := U.calling g mk a) (Vm.Alike.refl U.vm) qK⟩, va_recv hKc hPc (ci := 8) (q0 := 0) rfl rfl, fun U hU hW => ⟨rfl, by rw [hU]; exact hPc, va_K.moved hW.alike hKc⟩⟩ rfl rfl hl.1 rfl (lv_room (Nat.le_of_ble_eq_true rfl)) dX8_citations_12 ⟨Nat.le_of_ble_eq_true rfl, Nat.le_of_ble_eq_true rfl⟩) hS (fun _ _ h => h.elim) (fun _ h => h.elim) (fun r17 u t H1 locs ht hvm hw hB hz1 hk1 hS => ?_)
  have hP := pw_keep hP (fun q hq => hk1 q hq (fun h => h))
  generalize H1 = H at hP hS ⊢
  refine W.widen (k := 0) (n := 0) (Nat.le_of_ble_eq_true rfl) (Nat.le_of_ble_eq_true rfl) ?_
  obtain rfl : r17 = 0 := hw
  refine lv_if_eq (tgt := 21) hx hb dX8_citations_15 (by decide) (fun c18 => ?_) (fun c18 => absurd (by decide) c18)
  refine lv_iinc (v := 6) (lv' := [(2, .int 6), (1, .int 0), (0, .ref h0)]) hx hb dX8_citations_21 hl (k := 0) rfl (by decide) (by decide) rfl (fun ls hl => ?_)
  refine lv_goto (tgt := 4) hx hb dX8_citations_24 (by decide) ?_
  refine lv_iload_n hx hb dX8_citations_4 rfl (lv_at hl 0 rfl) ?_
  refine lv_bipush (v := 8) hx hb dX8_citations_5 (by decide) ?_
  refine lv_icmp_ge (tgt := 27) hx hb dX8_citations_7 (by decide) (fun c19 => absurd c19 (by decide)) (fun c19 => ?_)
  refine lv_aload_n hx hb dX8_citations_10 rfl (lv_at hl 2 rfl) ?_
  refine lv_iload_n hx hb dX8_citations_11 rfl (lv_at hl 0 rfl) ?_
  have hPc := hP.sub (ws' := [(h0, .inr (8, [.ref b_sc, .ref b_sp, .ref b_cp, .ref b_sn, .ref b_sl, .int 0, .int 0, .int 0])), (b_cp, .inl (k_c, 32, .inl (fun _ => 0)))]) [0, 1] rfl
  have hKc := hK.sub (tys' := [(k_c, .int)]) [0] rfl
  refine va_calli (va_runV (As := [.int 6]) (rest := []) ⟨hx, hb, hml, hown, hts⟩ (c_X8_hasCitation l D h0 6 b_sc b_sp b_cp b_sn b_sl k_c) (cwV 1 hts g_X8_citations_X8_hasCitation rfl rfl rfl (by decide +kernel) ⟨Nat.le_of_ble_eq_true rfl, Nat.le_of_ble_eq_true rfl⟩) ⟨fun a U g mk q => by obtain ⟨q0, qP, qK⟩ := q; exact ⟨q0, qP, va_K.moved (u := U) (U := U.calling g mk a) (Vm.Alike.refl U.vm) qK⟩, va_recv hKc hPc (ci := 8) (q0 := 0) rfl rfl, fun U hU hW => ⟨rfl, by rw [hU]; exact hPc, va_K.moved hW.alike hKc⟩⟩ rfl rfl hl.1 rfl (lv_room (Nat.le_of_ble_eq_true rfl)) dX8_citations_12 ⟨Nat.le_of_ble_eq_true rfl, Nat.le_of_ble_eq_true rfl⟩) hS (fun _ _ h => h.elim) (fun _ h => h.elim) (fun r20 u t H1 locs ht hvm hw hB hz1 hk1 hS => ?_)
  have hP := pw_keep hP (fun q hq => hk1 q hq (fun h => h))
  generalize H1 = H at hP hS ⊢
  refine W.widen (k := 0) (n := 0) (Nat.le_of_ble_eq_true rfl) (Nat.le_of_ble_eq_true rfl) ?_
  obtain rfl : r20 = 0 := hw
  refine lv_if_eq (tgt := 21) hx hb dX8_citations_15 (by decide) (fun c21 => ?_) (fun c21 => absurd (by decide) c21)
  refine lv_iinc (v := 7) (lv' := [(2, .int 7), (1, .int 0), (0, .ref h0)]) hx hb dX8_citations_21 hl (k := 0) rfl (by decide) (by decide) rfl (fun ls hl => ?_)
  refine lv_goto (tgt := 4) hx hb dX8_citations_24 (by decide) ?_
  refine lv_iload_n hx hb dX8_citations_4 rfl (lv_at hl 0 rfl) ?_
  refine lv_bipush (v := 8) hx hb dX8_citations_5 (by decide) ?_
  refine lv_icmp_ge (tgt := 27) hx hb dX8_citations_7 (by decide) (fun c22 => absurd c22 (by decide)) (fun c22 => ?_)
  refine lv_aload_n hx hb dX8_citations_10 rfl (lv_at hl 2 rfl) ?_
  refine lv_iload_n hx hb dX8_citations_11 rfl (lv_at hl 0 rfl) ?_
  have hPc := hP.sub (ws' := [(h0, .inr (8, [.ref b_sc, .ref b_sp, .ref b_cp, .ref b_sn, .ref b_sl, .int 0, .int 0, .int 0])), (b_cp, .inl (k_c, 32, .inl (fun _ => 0)))]) [0, 1] rfl
  have hKc := hK.sub (tys' := [(k_c, .int)]) [0] rfl
  refine va_calli (va_runV (As := [.int 7]) (rest := []) ⟨hx, hb, hml, hown, hts⟩ (c_X8_hasCitation l D h0 7 b_sc b_sp b_cp b_sn b_sl k_c) (cwV 1 hts g_X8_citations_X8_hasCitation rfl rfl rfl (by decide +kernel) ⟨Nat.le_of_ble_eq_true rfl, Nat.le_of_ble_eq_true rfl⟩) ⟨fun a U g mk q => by obtain ⟨q0, qP, qK⟩ := q; exact ⟨q0, qP, va_K.moved (u := U) (U := U.calling g mk a) (Vm.Alike.refl U.vm) qK⟩, va_recv hKc hPc (ci := 8) (q0 := 0) rfl rfl, fun U hU hW => ⟨rfl, by rw [hU]; exact hPc, va_K.moved hW.alike hKc⟩⟩ rfl rfl hl.1 rfl (lv_room (Nat.le_of_ble_eq_true rfl)) dX8_citations_12 ⟨Nat.le_of_ble_eq_true rfl, Nat.le_of_ble_eq_true rfl⟩) hS (fun _ _ h => h.elim) (fun _ h => h.elim) (fun r23 u t H1 locs ht hvm hw hB hz1 hk1 hS => ?_)
  have hP := pw_keep hP (fun q hq => hk1 q hq (fun h => h))
  generalize H1 = H at hP hS ⊢
  refine W.widen (k := 0) (n := 0) (Nat.le_of_ble_eq_true rfl) (Nat.le_of_ble_eq_true rfl) ?_
  obtain rfl : r23 = 0 := hw
  refine lv_if_eq (tgt := 21) hx hb dX8_citations_15 (by decide) (fun c24 => ?_) (fun c24 => absurd (by decide) c24)
  refine lv_iinc (v := 8) (lv' := [(2, .int 8), (1, .int 0), (0, .ref h0)]) hx hb dX8_citations_21 hl (k := 0) rfl (by decide) (by decide) rfl (fun ls hl => ?_)
  refine lv_goto (tgt := 4) hx hb dX8_citations_24 (by decide) ?_
  refine lv_iload_n hx hb dX8_citations_4 rfl (lv_at hl 0 rfl) ?_
  refine lv_bipush (v := 8) hx hb dX8_citations_5 (by decide) ?_
  refine lv_icmp_ge (tgt := 27) hx hb dX8_citations_7 (by decide) (fun c25 => ?_) (fun c25 => absurd (by decide) c25)
  refine lv_iload_n hx hb dX8_citations_27 rfl (lv_at hl 1 rfl) ?_
  exact W.iret (v := 0) hx hb hr (fun t ht hW => ⟨⟨0, (), rfl, rfl, trivial⟩, hS.F ht⟩) hS.2.2 dX8_citations_28
def w_X0_size : List Cond := .code yX0_size cX0_size 1 (some .int) :: ([.fieldLink RX0 17 "LineCites$Acts" "size" "I"] ++ wsX00)
set_option maxHeartbeats 4000000 in
set_option maxRecDepth 100000 in
theorem c_X0_size (l : Launch) (D : va_G) (h0 : Nat) (a_ring : Nat) : Met l yX0_size w_X0_size ({ frames := 0, cells := 0, slots := 0, locals := 0 }) (va_Pc [.ref h0] (fun U => va_P D vwCl [(h0, .inr (0, [.ref a_ring, .int 0, .int 0]))] U.heap ∧ va_K D vwCl [] U)) (va_Qi (fun (r : Int32) (_ : Unit) => r = 0) (fun _ _ => True) (fun _ => False)) 0 0 (fun _ => False) := by
  refine Met.ofW (cc := cX0_size) (maxL := 1) (ret := (some .int)) (by decide) rfl ?_
  intro p e s m args below meth c s₁ B hml hv
  obtain ⟨rfl, hP, hK⟩ := hv
  have hx := B.exec
  have hb := B.bytes
  have hr := B.returns
  have hts := atoms_spec (ws := w_X0_size) B.pre
  have hown : s.vm.findClass RX0 = some m.cls := findClass_of_methodNamed B.named
  have hlocks := B.notSynchronized
  have hS : va_S (fun _ : Nat => False) s.heap s.heap [] := va_S.rf
  have hP : va_P D vwCl [(h0, .inr (0, [.ref a_ring, .int 0, .int 0]))] s.heap := hP
  have hl := lv_entry ([.ref h0]) (n := 1) (Nat.le_of_ble_eq_true rfl)
  rw [lg_entry_eq]
  generalize (lg_sl ([.ref h0]) ++ List.replicate (1 - (lg_sl ([.ref h0])).length) Slot.unset).toArray = ls at hl ⊢
  have hl : lv_has ls 1 [(0, .ref h0)] := hl
  obtain ⟨H, hHe⟩ : ∃ H : Heap, H = s.heap := ⟨_, rfl⟩
  rw [← hHe] at hP
  have hS : va_S (fun _ : Nat => False) s.heap H [] := by rw [hHe]; exact hS
  refine pw_heap hHe ?_
  refine lv_aload_n hx hb dX0_size_0 rfl (lv_at hl 0 rfl) ?_
  refine va_get (D := D) (ci := 0) (v := .int 0) (C := RX0) (T := TX0) (N := 3) hx hb hts (fun _ h => List.mem_cons_of_mem _ (List.mem_append_right _ h)) hown hK hP 0 rfl rfl 2 (by decide) (hts (.fieldLink RX0 17 "LineCites$Acts" "size" "I") (List.mem_of_getElem? (i := 1) rfl)) (fun _ h9 => h9) rfl dX0_size_1 ?_
  exact W.iret (v := 0) hx hb hr (fun t ht hW => ⟨⟨0, (), rfl, rfl, trivial⟩, hS.F ht⟩) hS.2.2 dX0_size_4
def w_X0_takeBack : List Cond := .code yX0_takeBack cX0_takeBack 4 (some .boolean) :: ([.fieldLink RX0 21 "LineCites$Acts" "next" "I", .fieldLink RX0 17 "LineCites$Acts" "size" "I"] ++ wsX00)
set_option maxHeartbeats 4000000 in
set_option maxRecDepth 100000 in
theorem c_X0_takeBack (l : Launch) (D : va_G) (h0 : Nat) (a_w : Nat) (a_ring : Nat) : Met l yX0_takeBack w_X0_takeBack ({ frames := 0, cells := 0, slots := 0, locals := 0 }) (va_Pc [.ref h0, .ref a_w] (fun U => va_P D vwCl [(h0, .inr (0, [.ref a_ring, .int 0, .int 0]))] U.heap ∧ va_K D vwCl [] U)) (va_Qi (fun (r : Int32) (_ : Unit) => r = 0) (fun _ _ => True) (fun _ => False)) 0 0 (fun _ => False) := by
  refine Met.ofW (cc := cX0_takeBack) (maxL := 4) (ret := (some .boolean)) (by decide) rfl ?_
  intro p e s m args below meth c s₁ B hml hv
  obtain ⟨rfl, hP, hK⟩ := hv
  have hx := B.exec
  have hb := B.bytes
  have hr := B.returns
  have hts := atoms_spec (ws := w_X0_takeBack) B.pre
  have hown : s.vm.findClass RX0 = some m.cls := findClass_of_methodNamed B.named
  have hlocks := B.notSynchronized
  have hS : va_S (fun _ : Nat => False) s.heap s.heap [] := va_S.rf
  have hP : va_P D vwCl [(h0, .inr (0, [.ref a_ring, .int 0, .int 0]))] s.heap := hP
  have hl := lv_entry ([.ref h0, .ref a_w]) (n := 4) (Nat.le_of_ble_eq_true rfl)
  rw [lg_entry_eq]
  generalize (lg_sl ([.ref h0, .ref a_w]) ++ List.replicate (4 - (lg_sl ([.ref h0, .ref a_w])).length) Slot.unset).toArray = ls at hl ⊢
  have hl : lv_has ls 4 [(0, .ref h0), (1, .ref a_w)] := hl
  obtain ⟨H, hHe⟩ : ∃ H : Heap, H = s.heap := ⟨_, rfl⟩
  rw [← hHe] at hP
  have hS : va_S (fun _ : Nat => False) s.heap H [] := by rw [hHe]; exact hS
  refine pw_heap hHe ?_
  refine lv_aload_n hx hb dX0_takeBack_0 rfl (lv_at hl 0 rfl) ?_
  refine va_get (D := D) (ci := 0) (v := .int 0) (C := RX0) (T := TX0) (N := 3) hx hb hts (fun _ h => List.mem_cons_of_mem _ (List.mem_append_right _ h)) hown hK hP 0 rfl rfl 1 (by decide) (hts (.fieldLink RX0 21 "LineCites$Acts" "next" "I") (List.mem_of_getElem? (i := 1) rfl)) (fun _ h9 => h9) rfl dX0_takeBack_1 ?_
  refine lv_bipush (v := 10) hx hb dX0_takeBack_4 (by decide) ?_
  refine lv_iadd hx hb dX0_takeBack_6 ?_
  refine lv_topi (fun x1 ex1 => ?_)
  obtain rfl : x1 = 10 := ex1.trans (by decide)
  refine lv_iconst (v := 1) hx hb dX0_takeBack_7 (by decide) ?_
  refine lv_isub hx hb dX0_takeBack_8 ?_
  refine lv_topi (fun x2 ex2 => ?_)
  obtain rfl : x2 = 9 := ex2.trans (by decide)
  refine lv_bipush (v := 10) hx hb dX0_takeBack_9 (by decide) ?_
  refine lv_irem hx hb dX0_takeBack_11 (by decide) ?_
  refine lv_topi (fun x3 ex3 => ?_)
  obtain rfl : x3 = 9 := ex3.trans (by decide)
  refine lv_istore_n (lv' := [(2, .int 9), (0, .ref h0), (1, .ref a_w)]) hx hb dX0_takeBack_12 rfl hl (by decide) rfl (fun ls hl => ?_)
  refine lv_aload_n hx hb dX0_takeBack_13 rfl (lv_at hl 1 rfl) ?_
  refine va_get (D := D) (ci := 0) (v := .int 0) (C := RX0) (T := TX0) (N := 3) hx hb hts (fun _ h => List.mem_cons_of_mem _ (List.mem_append_right _ h)) hown hK hP 0 rfl rfl 2 (by decide) (hts (.fieldLink RX0 17 "LineCites$Acts" "size" "I") (List.mem_of_getElem? (i := 2) rfl)) (fun _ h9 => h9) rfl dX0_takeBack_14 ?_
  refine lv_if_le (tgt := 33) hx hb dX0_takeBack_17 (by decide) (fun c4 => ?_) (fun c4 => absurd (by decide) c4)
  refine lv_iconst (v := 0) hx hb dX0_takeBack_33 (by decide) ?_
  exact W.zret (v := 0) (ty := .boolean) hx hb hr rfl (fun t ht hW => ⟨⟨0, (), rfl, rfl, trivial⟩, hS.F ht⟩) hS.2.2 dX0_takeBack_34
def w_X7_size : List Cond := .code yX7_size cX7_size 1 (some .int) :: ([.fieldLink RX7 15 "LineCites$Tape" "size" "I"] ++ wsX70)
set_option maxHeartbeats 4000000 in
set_option maxRecDepth 100000 in
theorem c_X7_size (l : Launch) (D : va_G) (h0 : Nat) (a_b : Nat) : Met l yX7_size w_X7_size ({ frames := 0, cells := 0, slots := 0, locals := 0 }) (va_Pc [.ref h0] (fun U => va_P D vwCl [(h0, .inr (7, [.ref a_b, .int 0, .int 0]))] U.heap ∧ va_K D vwCl [] U)) (va_Qi (fun (r : Int32) (_ : Unit) => r = 0) (fun _ _ => True) (fun _ => False)) 0 0 (fun _ => False) := by
  refine Met.ofW (cc := cX7_size) (maxL := 1) (ret := (some .int)) (by decide) rfl ?_
  intro p e s m args below meth c s₁ B hml hv
  obtain ⟨rfl, hP, hK⟩ := hv
  have hx := B.exec
  have hb := B.bytes
  have hr := B.returns
  have hts := atoms_spec (ws := w_X7_size) B.pre
  have hown : s.vm.findClass RX7 = some m.cls := findClass_of_methodNamed B.named
  have hlocks := B.notSynchronized
  have hS : va_S (fun _ : Nat => False) s.heap s.heap [] := va_S.rf
  have hP : va_P D vwCl [(h0, .inr (7, [.ref a_b, .int 0, .int 0]))] s.heap := hP
  have hl := lv_entry ([.ref h0]) (n := 1) (Nat.le_of_ble_eq_true rfl)
  rw [lg_entry_eq]
  generalize (lg_sl ([.ref h0]) ++ List.replicate (1 - (lg_sl ([.ref h0])).length) Slot.unset).toArray = ls at hl ⊢
  have hl : lv_has ls 1 [(0, .ref h0)] := hl
  obtain ⟨H, hHe⟩ : ∃ H : Heap, H = s.heap := ⟨_, rfl⟩
  rw [← hHe] at hP
  have hS : va_S (fun _ : Nat => False) s.heap H [] := by rw [hHe]; exact hS
  refine pw_heap hHe ?_
  refine lv_aload_n hx hb dX7_size_0 rfl (lv_at hl 0 rfl) ?_
  refine va_get (D := D) (ci := 7) (v := .int 0) (C := RX7) (T := TX7) (N := 3) hx hb hts (fun _ h => List.mem_cons_of_mem _ (List.mem_append_right _ h)) hown hK hP 0 rfl rfl 1 (by decide) (hts (.fieldLink RX7 15 "LineCites$Tape" "size" "I") (List.mem_of_getElem? (i := 1) rfl)) (fun _ h9 => h9) rfl dX7_size_1 ?_
  exact W.iret (v := 0) hx hb hr (fun t ht hW => ⟨⟨0, (), rfl, rfl, trivial⟩, hS.F ht⟩) hS.2.2 dX7_size_4
def w_X7_size__1 : List Cond := .code yX7_size cX7_size 1 (some .int) :: ([.fieldLink RX7 15 "LineCites$Tape" "size" "I"] ++ wsX70)
set_option maxHeartbeats 4000000 in
set_option maxRecDepth 100000 in
theorem c_X7_size__1 (l : Launch) (D : va_G) (h0 : Nat) (a_b : Nat) : Met l yX7_size w_X7_size__1 ({ frames := 0, cells := 0, slots := 0, locals := 0 }) (va_Pc [.ref h0] (fun U => va_P D vwCl [(h0, .inr (7, [.ref a_b, .int 1, .int 0]))] U.heap ∧ va_K D vwCl [] U)) (va_Qi (fun (r : Int32) (_ : Unit) => r = 1) (fun _ _ => True) (fun _ => False)) 0 0 (fun _ => False) := by
  refine Met.ofW (cc := cX7_size) (maxL := 1) (ret := (some .int)) (by decide) rfl ?_
  intro p e s m args below meth c s₁ B hml hv
  obtain ⟨rfl, hP, hK⟩ := hv
  have hx := B.exec
  have hb := B.bytes
  have hr := B.returns
  have hts := atoms_spec (ws := w_X7_size__1) B.pre
  have hown : s.vm.findClass RX7 = some m.cls := findClass_of_methodNamed B.named
  have hlocks := B.notSynchronized
  have hS : va_S (fun _ : Nat => False) s.heap s.heap [] := va_S.rf
  have hP : va_P D vwCl [(h0, .inr (7, [.ref a_b, .int 1, .int 0]))] s.heap := hP
  have hl := lv_entry ([.ref h0]) (n := 1) (Nat.le_of_ble_eq_true rfl)
  rw [lg_entry_eq]
  generalize (lg_sl ([.ref h0]) ++ List.replicate (1 - (lg_sl ([.ref h0])).length) Slot.unset).toArray = ls at hl ⊢
  have hl : lv_has ls 1 [(0, .ref h0)] := hl
  obtain ⟨H, hHe⟩ : ∃ H : Heap, H = s.heap := ⟨_, rfl⟩
  rw [← hHe] at hP
  have hS : va_S (fun _ : Nat => False) s.heap H [] := by rw [hHe]; exact hS
  refine pw_heap hHe ?_
  refine lv_aload_n hx hb dX7_size_0 rfl (lv_at hl 0 rfl) ?_
  refine va_get (D := D) (ci := 7) (v := .int 1) (C := RX7) (T := TX7) (N := 3) hx hb hts (fun _ h => List.mem_cons_of_mem _ (List.mem_append_right _ h)) hown hK hP 0 rfl rfl 1 (by decide) (hts (.fieldLink RX7 15 "LineCites$Tape" "size" "I") (List.mem_of_getElem? (i := 1) rfl)) (fun _ h9 => h9) rfl dX7_size_1 ?_
  exact W.iret (v := 1) hx hb hr (fun t ht hW => ⟨⟨1, (), rfl, rfl, trivial⟩, hS.F ht⟩) hS.2.2 dX7_size_4
def w_X7_latestFault : List Cond := .code yX7_latestFault cX7_latestFault 1 (some .int) :: ([.fieldLink RX7 19 "LineCites$Tape" "latestFault" "I"] ++ wsX70)
set_option maxHeartbeats 4000000 in
set_option maxRecDepth 100000 in
theorem c_X7_latestFault (l : Launch) (D : va_G) (h0 : Nat) (a_b : Nat) : Met l yX7_latestFault w_X7_latestFault ({ frames := 0, cells := 0, slots := 0, locals := 0 }) (va_Pc [.ref h0] (fun U => va_P D vwCl [(h0, .inr (7, [.ref a_b, .int 0, .int 0]))] U.heap ∧ va_K D vwCl [] U)) (va_Qi (fun (r : Int32) (_ : Unit) => r = 0) (fun _ _ => True) (fun _ => False)) 0 0 (fun _ => False) := by
  refine Met.ofW (cc := cX7_latestFault) (maxL := 1) (ret := (some .int)) (by decide) rfl ?_
  intro p e s m args below meth c s₁ B hml hv
  obtain ⟨rfl, hP, hK⟩ := hv
  have hx := B.exec
  have hb := B.bytes
  have hr := B.returns
  have hts := atoms_spec (ws := w_X7_latestFault) B.pre
  have hown : s.vm.findClass RX7 = some m.cls := findClass_of_methodNamed B.named
  have hlocks := B.notSynchronized
  have hS : va_S (fun _ : Nat => False) s.heap s.heap [] := va_S.rf
  have hP : va_P D vwCl [(h0, .inr (7, [.ref a_b, .int 0, .int 0]))] s.heap := hP
  have hl := lv_entry ([.ref h0]) (n := 1) (Nat.le_of_ble_eq_true rfl)
  rw [lg_entry_eq]
  generalize (lg_sl ([.ref h0]) ++ List.replicate (1 - (lg_sl ([.ref h0])).length) Slot.unset).toArray = ls at hl ⊢
  have hl : lv_has ls 1 [(0, .ref h0)] := hl
  obtain ⟨H, hHe⟩ : ∃ H : Heap, H = s.heap := ⟨_, rfl⟩
  rw [← hHe] at hP
  have hS : va_S (fun _ : Nat => False) s.heap H [] := by rw [hHe]; exact hS
  refine pw_heap hHe ?_
  refine lv_aload_n hx hb dX7_latestFault_0 rfl (lv_at hl 0 rfl) ?_
  refine va_get (D := D) (ci := 7) (v := .int 0) (C := RX7) (T := TX7) (N := 3) hx hb hts (fun _ h => List.mem_cons_of_mem _ (List.mem_append_right _ h)) hown hK hP 0 rfl rfl 2 (by decide) (hts (.fieldLink RX7 19 "LineCites$Tape" "latestFault" "I") (List.mem_of_getElem? (i := 1) rfl)) (fun _ h9 => h9) rfl dX7_latestFault_1 ?_
  exact W.iret (v := 0) hx hb hr (fun t ht hW => ⟨⟨0, (), rfl, rfl, trivial⟩, hS.F ht⟩) hS.2.2 dX7_latestFault_4
def w_X9_isNumber : List Cond := .code yX9_isNumber cX9_isNumber 1 (some .boolean) :: ([])
set_option maxHeartbeats 4000000 in
set_option maxRecDepth 100000 in
theorem c_X9_isNumber (l : Launch) (D : va_G) (i_n : Int32) : Met l yX9_isNumber w_X9_isNumber ({ frames := 0, cells := 0, slots := 0, locals := 0 }) (va_Pc [.int i_n] (fun U => va_P D vwCl [] U.heap ∧ va_K D vwCl [] U)) (va_Qi (fun (r : Int32) (_ : Unit) => True) (fun _ _ => True) (fun _ => False)) 0 0 (fun _ => False) := by
  refine Met.ofW (cc := cX9_isNumber) (maxL := 1) (ret := (some .boolean)) (by decide) rfl ?_
  intro p e s m args below meth c s₁ B hml hv
  obtain ⟨rfl, hP, hK⟩ := hv
  have hx := B.exec
  have hb := B.bytes
  have hr := B.returns
  have hts := atoms_spec (ws := w_X9_isNumber) B.pre
  have hown : s.vm.findClass RX9 = some m.cls := findClass_of_methodNamed B.named
  have hlocks := B.notSynchronized
  have hS : va_S (fun _ : Nat => False) s.heap s.heap [] := va_S.rf
  have hP : va_P D vwCl [] s.heap := hP
  have hl := lv_entry ([.int i_n]) (n := 1) (Nat.le_of_ble_eq_true rfl)
  rw [lg_entry_eq]
  generalize (lg_sl ([.int i_n]) ++ List.replicate (1 - (lg_sl ([.int i_n])).length) Slot.unset).toArray = ls at hl ⊢
  have hl : lv_has ls 1 [(0, .int i_n)] := hl
  obtain ⟨H, hHe⟩ : ∃ H : Heap, H = s.heap := ⟨_, rfl⟩
  rw [← hHe] at hP
  have hS : va_S (fun _ : Nat => False) s.heap H [] := by rw [hHe]; exact hS
  refine pw_heap hHe ?_
  refine lv_iload_n hx hb dX9_isNumber_0 rfl (lv_at hl 0 rfl) ?_
  refine lv_iconst (v := 1) hx hb dX9_isNumber_1 (by decide) ?_
  refine lv_icmp_lt (tgt := 16) hx hb dX9_isNumber_2 (by decide) (fun c1 => ?_) (fun c1 => ?_)
  · have nc1 : i_n.toInt < 1 := pw_lt c1 rfl (by decide)
    refine lv_iconst (v := 0) hx hb dX9_isNumber_16 (by decide) ?_
    exact W.zret (v := 0) (ty := .boolean) hx hb hr rfl (fun t ht hW => ⟨⟨0, (), rfl, trivial, trivial⟩, hS.F ht⟩) hS.2.2 dX9_isNumber_17
  · have nc1 : 1 ≤ i_n.toInt := pw_nlt c1 rfl (by decide)
    refine lv_iload_n hx hb dX9_isNumber_5 rfl (lv_at hl 0 rfl) ?_
    refine lv_sipush (v := 999) hx hb dX9_isNumber_6 (by decide) ?_
    refine lv_icmp_gt (tgt := 16) hx hb dX9_isNumber_9 (by decide) (fun c2 => ?_) (fun c2 => ?_)
    · have nc2 : 999 < i_n.toInt := pw_lt c2 (by decide) rfl
      refine lv_iconst (v := 0) hx hb dX9_isNumber_16 (by decide) ?_
      exact W.zret (v := 0) (ty := .boolean) hx hb hr rfl (fun t ht hW => ⟨⟨0, (), rfl, trivial, trivial⟩, hS.F ht⟩) hS.2.2 dX9_isNumber_17
    · have nc2 : i_n.toInt ≤ 999 := pw_nlt c2 (by decide) rfl
      refine lv_iconst (v := 1) hx hb dX9_isNumber_12 (by decide) ?_
      refine lv_goto (tgt := 17) hx hb dX9_isNumber_13 (by decide) ?_
      exact W.zret (v := 1) (ty := .boolean) hx hb hr rfl (fun t ht hW => ⟨⟨1, (), rfl, trivial, trivial⟩, hS.F ht⟩) hS.2.2 dX9_isNumber_17
end
section
theorem dX9_fault_0 : decode cX9_fault 0 = .ok (.aload_n 0, 1) := by decide +kernel
theorem dX9_fault_1 : decode cX9_fault 1 = .ok (.getfield 10, 3) := by decide +kernel
theorem dX9_fault_4 : decode cX9_fault 4 = .ok (.invokevirtual 129, 3) := by decide +kernel
theorem dX9_fault_7 : decode cX9_fault 7 = .ok (.ireturn, 1) := by decide +kernel
theorem dX9_undo_0 : decode cX9_undo 0 = .ok (.aload_n 0, 1) := by decide +kernel
theorem dX9_undo_1 : decode cX9_undo 1 = .ok (.getfield 38, 3) := by decide +kernel
theorem dX9_undo_4 : decode cX9_undo 4 = .ok (.aload_n 0, 1) := by decide +kernel
theorem dX9_undo_5 : decode cX9_undo 5 = .ok (.getfield 19, 3) := by decide +kernel
theorem dX9_undo_8 : decode cX9_undo 8 = .ok (.invokevirtual 132, 3) := by decide +kernel
theorem dX9_undo_11 : decode cX9_undo 11 = .ok (.ifCond .eq 13, 3) := by decide +kernel
theorem dX9_undo_14 : decode cX9_undo 14 = .ok (.aload_n 0, 1) := by decide +kernel
theorem dX9_undo_15 : decode cX9_undo 15 = .ok (.getfield 38, 3) := by decide +kernel
theorem dX9_undo_18 : decode cX9_undo 18 = .ok (.invokevirtual 136, 3) := by decide +kernel
theorem dX9_undo_21 : decode cX9_undo 21 = .ok (.goto 5, 3) := by decide +kernel
theorem dX9_undo_24 : decode cX9_undo 24 = .ok (.ldc 137, 2) := by decide +kernel
theorem dX9_undo_26 : decode cX9_undo 26 = .ok (.ireturn, 1) := by decide +kernel
theorem dX9_add_0 : decode cX9_add 0 = .ok (.aload_n 0, 1) := by decide +kernel
theorem dX9_add_1 : decode cX9_add 1 = .ok (.getfield 19, 3) := by decide +kernel
theorem dX9_add_4 : decode cX9_add 4 = .ok (.iload_n 1, 1) := by decide +kernel
theorem dX9_add_5 : decode cX9_add 5 = .ok (.invokevirtual 138, 3) := by decide +kernel
theorem dX9_add_8 : decode cX9_add 8 = .ok (.ifCond .ne 6, 3) := by decide +kernel
theorem dX9_add_11 : decode cX9_add 11 = .ok (.ldc 88, 2) := by decide +kernel
theorem dX9_add_13 : decode cX9_add 13 = .ok (.ireturn, 1) := by decide +kernel
theorem dX9_add_14 : decode cX9_add 14 = .ok (.aload_n 0, 1) := by decide +kernel
theorem dX9_add_15 : decode cX9_add 15 = .ok (.getfield 19, 3) := by decide +kernel
theorem dX9_add_18 : decode cX9_add 18 = .ok (.iload_n 1, 1) := by decide +kernel
theorem dX9_add_19 : decode cX9_add 19 = .ok (.iconst (-1), 1) := by decide +kernel
theorem dX9_add_20 : decode cX9_add 20 = .ok (.iload_n 2, 1) := by decide +kernel
theorem dX9_add_21 : decode cX9_add 21 = .ok (.iload_n 3, 1) := by decide +kernel
theorem dX9_add_22 : decode cX9_add 22 = .ok (.iload 4, 2) := by decide +kernel
theorem dX9_add_24 : decode cX9_add 24 = .ok (.iload 5, 2) := by decide +kernel
theorem dX9_add_26 : decode cX9_add 26 = .ok (.invokevirtual 141, 3) := by decide +kernel
theorem dX9_add_29 : decode cX9_add 29 = .ok (.ifCond .ne 6, 3) := by decide +kernel
theorem dX9_add_32 : decode cX9_add 32 = .ok (.ldc 88, 2) := by decide +kernel
theorem dX9_add_34 : decode cX9_add 34 = .ok (.ireturn, 1) := by decide +kernel
theorem dX9_add_35 : decode cX9_add 35 = .ok (.aload_n 0, 1) := by decide +kernel
theorem dX9_add_36 : decode cX9_add 36 = .ok (.getfield 19, 3) := by decide +kernel
theorem dX9_add_39 : decode cX9_add 39 = .ok (.iload_n 1, 1) := by decide +kernel
theorem dX9_add_40 : decode cX9_add 40 = .ok (.invokevirtual 145, 3) := by decide +kernel
theorem dX9_add_43 : decode cX9_add 43 = .ok (.bipush 6, 2) := by decide +kernel
theorem dX9_add_45 : decode cX9_add 45 = .ok (.if_icmp .lt 6, 3) := by decide +kernel
theorem dX9_add_48 : decode cX9_add 48 = .ok (.ldc 97, 2) := by decide +kernel
theorem dX9_add_50 : decode cX9_add 50 = .ok (.ireturn, 1) := by decide +kernel
theorem dX9_add_51 : decode cX9_add 51 = .ok (.aload_n 0, 1) := by decide +kernel
theorem dX9_add_52 : decode cX9_add 52 = .ok (.getfield 38, 3) := by decide +kernel
theorem dX9_add_55 : decode cX9_add 55 = .ok (.aload_n 0, 1) := by decide +kernel
theorem dX9_add_56 : decode cX9_add 56 = .ok (.getfield 19, 3) := by decide +kernel
theorem dX9_add_59 : decode cX9_add 59 = .ok (.invokevirtual 149, 3) := by decide +kernel
theorem dX9_add_62 : decode cX9_add 62 = .ok (.aload_n 0, 1) := by decide +kernel
theorem dX9_add_63 : decode cX9_add 63 = .ok (.getfield 19, 3) := by decide +kernel
theorem dX9_add_66 : decode cX9_add 66 = .ok (.iload_n 1, 1) := by decide +kernel
theorem dX9_add_67 : decode cX9_add 67 = .ok (.iload_n 2, 1) := by decide +kernel
theorem dX9_add_68 : decode cX9_add 68 = .ok (.iload_n 3, 1) := by decide +kernel
theorem dX9_add_69 : decode cX9_add 69 = .ok (.iload 4, 2) := by decide +kernel
theorem dX9_add_71 : decode cX9_add 71 = .ok (.iload 5, 2) := by decide +kernel
theorem dX9_add_73 : decode cX9_add 73 = .ok (.invokevirtual 152, 3) := by decide +kernel
theorem dX9_add_76 : decode cX9_add 76 = .ok (.aload_n 0, 1) := by decide +kernel
theorem dX9_add_77 : decode cX9_add 77 = .ok (.getfield 19, 3) := by decide +kernel
theorem dX9_add_80 : decode cX9_add 80 = .ok (.iload_n 1, 1) := by decide +kernel
theorem dX9_add_81 : decode cX9_add 81 = .ok (.invokevirtual 145, 3) := by decide +kernel
theorem dX9_add_84 : decode cX9_add 84 = .ok (.ireturn, 1) := by decide +kernel
theorem dX9_drop_0 : decode cX9_drop 0 = .ok (.aload_n 0, 1) := by decide +kernel
theorem dX9_drop_1 : decode cX9_drop 1 = .ok (.getfield 19, 3) := by decide +kernel
theorem dX9_drop_4 : decode cX9_drop 4 = .ok (.iload_n 1, 1) := by decide +kernel
theorem dX9_drop_5 : decode cX9_drop 5 = .ok (.iload_n 2, 1) := by decide +kernel
theorem dX9_drop_6 : decode cX9_drop 6 = .ok (.invokevirtual 156, 3) := by decide +kernel
theorem dX9_drop_9 : decode cX9_drop 9 = .ok (.ifCond .ne 6, 3) := by decide +kernel
theorem dX9_drop_12 : decode cX9_drop 12 = .ok (.ldc 88, 2) := by decide +kernel
theorem dX9_drop_14 : decode cX9_drop 14 = .ok (.ireturn, 1) := by decide +kernel
theorem dX9_drop_15 : decode cX9_drop 15 = .ok (.aload_n 0, 1) := by decide +kernel
theorem dX9_drop_16 : decode cX9_drop 16 = .ok (.getfield 38, 3) := by decide +kernel
theorem dX9_drop_19 : decode cX9_drop 19 = .ok (.aload_n 0, 1) := by decide +kernel
theorem dX9_drop_20 : decode cX9_drop 20 = .ok (.getfield 19, 3) := by decide +kernel
theorem dX9_drop_23 : decode cX9_drop 23 = .ok (.invokevirtual 149, 3) := by decide +kernel
theorem dX9_drop_26 : decode cX9_drop 26 = .ok (.aload_n 0, 1) := by decide +kernel
theorem dX9_drop_27 : decode cX9_drop 27 = .ok (.getfield 19, 3) := by decide +kernel
theorem dX9_drop_30 : decode cX9_drop 30 = .ok (.iload_n 1, 1) := by decide +kernel
theorem dX9_drop_31 : decode cX9_drop 31 = .ok (.iload_n 2, 1) := by decide +kernel
theorem dX9_drop_32 : decode cX9_drop 32 = .ok (.invokevirtual 160, 3) := by decide +kernel
theorem dX9_drop_35 : decode cX9_drop 35 = .ok (.aload_n 0, 1) := by decide +kernel
theorem dX9_drop_36 : decode cX9_drop 36 = .ok (.getfield 19, 3) := by decide +kernel
theorem dX9_drop_39 : decode cX9_drop 39 = .ok (.iload_n 1, 1) := by decide +kernel
theorem dX9_drop_40 : decode cX9_drop 40 = .ok (.invokevirtual 145, 3) := by decide +kernel
theorem dX9_drop_43 : decode cX9_drop 43 = .ok (.ireturn, 1) := by decide +kernel
theorem dX9_alter_0 : decode cX9_alter 0 = .ok (.aload_n 0, 1) := by decide +kernel
theorem dX9_alter_1 : decode cX9_alter 1 = .ok (.getfield 19, 3) := by decide +kernel
theorem dX9_alter_4 : decode cX9_alter 4 = .ok (.iload_n 1, 1) := by decide +kernel
theorem dX9_alter_5 : decode cX9_alter 5 = .ok (.iload_n 2, 1) := by decide +kernel
theorem dX9_alter_6 : decode cX9_alter 6 = .ok (.invokevirtual 156, 3) := by decide +kernel
theorem dX9_alter_9 : decode cX9_alter 9 = .ok (.ifCond .eq 12, 3) := by decide +kernel
theorem dX9_alter_12 : decode cX9_alter 12 = .ok (.iload_n 3, 1) := by decide +kernel
theorem dX9_alter_13 : decode cX9_alter 13 = .ok (.ifCond .lt 8, 3) := by decide +kernel
theorem dX9_alter_16 : decode cX9_alter 16 = .ok (.iload_n 3, 1) := by decide +kernel
theorem dX9_alter_17 : decode cX9_alter 17 = .ok (.iconst 3, 1) := by decide +kernel
theorem dX9_alter_18 : decode cX9_alter 18 = .ok (.if_icmp .le 6, 3) := by decide +kernel
theorem dX9_alter_21 : decode cX9_alter 21 = .ok (.ldc 88, 2) := by decide +kernel
theorem dX9_alter_23 : decode cX9_alter 23 = .ok (.ireturn, 1) := by decide +kernel
theorem dX9_alter_24 : decode cX9_alter 24 = .ok (.iload_n 3, 1) := by decide +kernel
theorem dX9_alter_25 : decode cX9_alter 25 = .ok (.ifCond .ne 8, 3) := by decide +kernel
theorem dX9_alter_28 : decode cX9_alter 28 = .ok (.iload 4, 2) := by decide +kernel
theorem dX9_alter_30 : decode cX9_alter 30 = .ok (.goto 13, 3) := by decide +kernel
theorem dX9_alter_33 : decode cX9_alter 33 = .ok (.aload_n 0, 1) := by decide +kernel
theorem dX9_alter_34 : decode cX9_alter 34 = .ok (.getfield 19, 3) := by decide +kernel
theorem dX9_alter_37 : decode cX9_alter 37 = .ok (.iload_n 1, 1) := by decide +kernel
theorem dX9_alter_38 : decode cX9_alter 38 = .ok (.iload_n 2, 1) := by decide +kernel
theorem dX9_alter_39 : decode cX9_alter 39 = .ok (.iconst 0, 1) := by decide +kernel
theorem dX9_alter_40 : decode cX9_alter 40 = .ok (.invokevirtual 164, 3) := by decide +kernel
theorem dX9_alter_43 : decode cX9_alter 43 = .ok (.istore 5, 2) := by decide +kernel
theorem dX9_alter_45 : decode cX9_alter 45 = .ok (.iload_n 3, 1) := by decide +kernel
theorem dX9_alter_46 : decode cX9_alter 46 = .ok (.iconst 1, 1) := by decide +kernel
theorem dX9_alter_47 : decode cX9_alter 47 = .ok (.if_icmp .ne 8, 3) := by decide +kernel
theorem dX9_alter_50 : decode cX9_alter 50 = .ok (.iload 4, 2) := by decide +kernel
theorem dX9_alter_52 : decode cX9_alter 52 = .ok (.goto 13, 3) := by decide +kernel
theorem dX9_alter_55 : decode cX9_alter 55 = .ok (.aload_n 0, 1) := by decide +kernel
theorem dX9_alter_56 : decode cX9_alter 56 = .ok (.getfield 19, 3) := by decide +kernel
theorem dX9_alter_59 : decode cX9_alter 59 = .ok (.iload_n 1, 1) := by decide +kernel
theorem dX9_alter_60 : decode cX9_alter 60 = .ok (.iload_n 2, 1) := by decide +kernel
theorem dX9_alter_61 : decode cX9_alter 61 = .ok (.iconst 1, 1) := by decide +kernel
theorem dX9_alter_62 : decode cX9_alter 62 = .ok (.invokevirtual 164, 3) := by decide +kernel
theorem dX9_alter_65 : decode cX9_alter 65 = .ok (.istore 6, 2) := by decide +kernel
theorem dX9_alter_67 : decode cX9_alter 67 = .ok (.iload_n 3, 1) := by decide +kernel
theorem dX9_alter_68 : decode cX9_alter 68 = .ok (.iconst 2, 1) := by decide +kernel
theorem dX9_alter_69 : decode cX9_alter 69 = .ok (.if_icmp .ne 8, 3) := by decide +kernel
theorem dX9_alter_72 : decode cX9_alter 72 = .ok (.iload 4, 2) := by decide +kernel
theorem dX9_alter_74 : decode cX9_alter 74 = .ok (.goto 13, 3) := by decide +kernel
theorem dX9_alter_77 : decode cX9_alter 77 = .ok (.aload_n 0, 1) := by decide +kernel
theorem dX9_alter_78 : decode cX9_alter 78 = .ok (.getfield 19, 3) := by decide +kernel
theorem dX9_alter_81 : decode cX9_alter 81 = .ok (.iload_n 1, 1) := by decide +kernel
theorem dX9_alter_82 : decode cX9_alter 82 = .ok (.iload_n 2, 1) := by decide +kernel
theorem dX9_alter_83 : decode cX9_alter 83 = .ok (.iconst 2, 1) := by decide +kernel
theorem dX9_alter_84 : decode cX9_alter 84 = .ok (.invokevirtual 164, 3) := by decide +kernel
theorem dX9_alter_87 : decode cX9_alter 87 = .ok (.istore 7, 2) := by decide +kernel
theorem dX9_alter_89 : decode cX9_alter 89 = .ok (.iload_n 3, 1) := by decide +kernel
theorem dX9_alter_90 : decode cX9_alter 90 = .ok (.iconst 3, 1) := by decide +kernel
theorem dX9_alter_91 : decode cX9_alter 91 = .ok (.if_icmp .ne 8, 3) := by decide +kernel
theorem dX9_alter_94 : decode cX9_alter 94 = .ok (.iload 4, 2) := by decide +kernel
theorem dX9_alter_96 : decode cX9_alter 96 = .ok (.goto 13, 3) := by decide +kernel
theorem dX9_alter_99 : decode cX9_alter 99 = .ok (.aload_n 0, 1) := by decide +kernel
theorem dX9_alter_100 : decode cX9_alter 100 = .ok (.getfield 19, 3) := by decide +kernel
theorem dX9_alter_103 : decode cX9_alter 103 = .ok (.iload_n 1, 1) := by decide +kernel
theorem dX9_alter_104 : decode cX9_alter 104 = .ok (.iload_n 2, 1) := by decide +kernel
theorem dX9_alter_105 : decode cX9_alter 105 = .ok (.iconst 3, 1) := by decide +kernel
theorem dX9_alter_106 : decode cX9_alter 106 = .ok (.invokevirtual 164, 3) := by decide +kernel
theorem dX9_alter_109 : decode cX9_alter 109 = .ok (.istore 8, 2) := by decide +kernel
theorem dX9_alter_111 : decode cX9_alter 111 = .ok (.aload_n 0, 1) := by decide +kernel
theorem dX9_alter_112 : decode cX9_alter 112 = .ok (.getfield 19, 3) := by decide +kernel
theorem dX9_alter_115 : decode cX9_alter 115 = .ok (.iload_n 1, 1) := by decide +kernel
theorem dX9_alter_116 : decode cX9_alter 116 = .ok (.iload_n 2, 1) := by decide +kernel
theorem dX9_alter_117 : decode cX9_alter 117 = .ok (.iload 5, 2) := by decide +kernel
theorem dX9_alter_119 : decode cX9_alter 119 = .ok (.iload 6, 2) := by decide +kernel
theorem dX9_alter_121 : decode cX9_alter 121 = .ok (.iload 7, 2) := by decide +kernel
theorem dX9_alter_123 : decode cX9_alter 123 = .ok (.iload 8, 2) := by decide +kernel
theorem dX9_alter_125 : decode cX9_alter 125 = .ok (.invokevirtual 141, 3) := by decide +kernel
theorem dX9_alter_128 : decode cX9_alter 128 = .ok (.ifCond .ne 6, 3) := by decide +kernel
theorem dX9_alter_131 : decode cX9_alter 131 = .ok (.ldc 88, 2) := by decide +kernel
theorem dX9_alter_133 : decode cX9_alter 133 = .ok (.ireturn, 1) := by decide +kernel
theorem dX9_alter_134 : decode cX9_alter 134 = .ok (.aload_n 0, 1) := by decide +kernel
theorem dX9_alter_135 : decode cX9_alter 135 = .ok (.getfield 19, 3) := by decide +kernel
theorem dX9_alter_138 : decode cX9_alter 138 = .ok (.iload_n 1, 1) := by decide +kernel
theorem dX9_alter_139 : decode cX9_alter 139 = .ok (.iload_n 2, 1) := by decide +kernel
theorem dX9_alter_140 : decode cX9_alter 140 = .ok (.iload_n 3, 1) := by decide +kernel
theorem dX9_alter_141 : decode cX9_alter 141 = .ok (.invokevirtual 164, 3) := by decide +kernel
theorem dX9_alter_144 : decode cX9_alter 144 = .ok (.istore 9, 2) := by decide +kernel
theorem dX9_alter_146 : decode cX9_alter 146 = .ok (.aload_n 0, 1) := by decide +kernel
theorem dX9_alter_147 : decode cX9_alter 147 = .ok (.getfield 38, 3) := by decide +kernel
theorem dX9_alter_150 : decode cX9_alter 150 = .ok (.aload_n 0, 1) := by decide +kernel
theorem dX9_alter_151 : decode cX9_alter 151 = .ok (.getfield 19, 3) := by decide +kernel
theorem dX9_alter_154 : decode cX9_alter 154 = .ok (.invokevirtual 149, 3) := by decide +kernel
theorem dX9_alter_157 : decode cX9_alter 157 = .ok (.aload_n 0, 1) := by decide +kernel
theorem dX9_alter_158 : decode cX9_alter 158 = .ok (.getfield 19, 3) := by decide +kernel
theorem dX9_alter_161 : decode cX9_alter 161 = .ok (.iload_n 1, 1) := by decide +kernel
theorem dX9_alter_162 : decode cX9_alter 162 = .ok (.iload_n 2, 1) := by decide +kernel
theorem dX9_alter_163 : decode cX9_alter 163 = .ok (.iload_n 3, 1) := by decide +kernel
theorem dX9_alter_164 : decode cX9_alter 164 = .ok (.iload 4, 2) := by decide +kernel
theorem dX9_alter_166 : decode cX9_alter 166 = .ok (.invokevirtual 168, 3) := by decide +kernel
theorem dX9_alter_169 : decode cX9_alter 169 = .ok (.iload 9, 2) := by decide +kernel
theorem dX9_alter_171 : decode cX9_alter 171 = .ok (.ireturn, 1) := by decide +kernel
theorem dX9_cite_0 : decode cX9_cite 0 = .ok (.iload_n 1, 1) := by decide +kernel
theorem dX9_cite_1 : decode cX9_cite 1 = .ok (.ifCond .lt 20, 3) := by decide +kernel
theorem dX9_cite_4 : decode cX9_cite 4 = .ok (.iload_n 1, 1) := by decide +kernel
theorem dX9_cite_5 : decode cX9_cite 5 = .ok (.bipush 8, 2) := by decide +kernel
theorem dX9_cite_7 : decode cX9_cite 7 = .ok (.if_icmp .ge 14, 3) := by decide +kernel
theorem dX9_cite_10 : decode cX9_cite 10 = .ok (.aload_n 0, 1) := by decide +kernel
theorem dX9_cite_11 : decode cX9_cite 11 = .ok (.getfield 19, 3) := by decide +kernel
theorem dX9_cite_14 : decode cX9_cite 14 = .ok (.iload_n 2, 1) := by decide +kernel
theorem dX9_cite_15 : decode cX9_cite 15 = .ok (.invokevirtual 138, 3) := by decide +kernel
theorem dX9_cite_18 : decode cX9_cite 18 = .ok (.ifCond .ne 6, 3) := by decide +kernel
theorem dX9_cite_21 : decode cX9_cite 21 = .ok (.ldc 88, 2) := by decide +kernel
theorem dX9_cite_23 : decode cX9_cite 23 = .ok (.ireturn, 1) := by decide +kernel
theorem dX9_cite_24 : decode cX9_cite 24 = .ok (.iload_n 3, 1) := by decide +kernel
theorem dX9_cite_25 : decode cX9_cite 25 = .ok (.ifCond .lt 16, 3) := by decide +kernel
theorem dX9_cite_28 : decode cX9_cite 28 = .ok (.iload_n 3, 1) := by decide +kernel
theorem dX9_cite_29 : decode cX9_cite 29 = .ok (.iconst 2, 1) := by decide +kernel
theorem dX9_cite_30 : decode cX9_cite 30 = .ok (.if_icmp .gt 11, 3) := by decide +kernel
theorem dX9_cite_33 : decode cX9_cite 33 = .ok (.iload 4, 2) := by decide +kernel
theorem dX9_cite_35 : decode cX9_cite 35 = .ok (.invokestatic 172, 3) := by decide +kernel
theorem dX9_cite_38 : decode cX9_cite 38 = .ok (.ifCond .ne 6, 3) := by decide +kernel
theorem dX9_cite_41 : decode cX9_cite 41 = .ok (.ldc 88, 2) := by decide +kernel
theorem dX9_cite_43 : decode cX9_cite 43 = .ok (.ireturn, 1) := by decide +kernel
theorem dX9_cite_44 : decode cX9_cite 44 = .ok (.iload_n 3, 1) := by decide +kernel
theorem dX9_cite_45 : decode cX9_cite 45 = .ok (.ifCond .ne 21, 3) := by decide +kernel
theorem dX9_cite_48 : decode cX9_cite 48 = .ok (.iload 5, 2) := by decide +kernel
theorem dX9_cite_50 : decode cX9_cite 50 = .ok (.iload 4, 2) := by decide +kernel
theorem dX9_cite_52 : decode cX9_cite 52 = .ok (.if_icmp .lt 19, 3) := by decide +kernel
theorem dX9_cite_55 : decode cX9_cite 55 = .ok (.iload 5, 2) := by decide +kernel
theorem dX9_cite_57 : decode cX9_cite 57 = .ok (.sipush 999, 3) := by decide +kernel
theorem dX9_cite_60 : decode cX9_cite 60 = .ok (.if_icmp .le 14, 3) := by decide +kernel
theorem dX9_cite_63 : decode cX9_cite 63 = .ok (.goto 8, 3) := by decide +kernel
theorem dX9_cite_66 : decode cX9_cite 66 = .ok (.iload 5, 2) := by decide +kernel
theorem dX9_cite_68 : decode cX9_cite 68 = .ok (.ifCond .eq 6, 3) := by decide +kernel
theorem dX9_cite_71 : decode cX9_cite 71 = .ok (.ldc 88, 2) := by decide +kernel
theorem dX9_cite_73 : decode cX9_cite 73 = .ok (.ireturn, 1) := by decide +kernel
theorem dX9_cite_74 : decode cX9_cite 74 = .ok (.aload_n 0, 1) := by decide +kernel
theorem dX9_cite_75 : decode cX9_cite 75 = .ok (.getfield 38, 3) := by decide +kernel
theorem dX9_cite_78 : decode cX9_cite 78 = .ok (.aload_n 0, 1) := by decide +kernel
theorem dX9_cite_79 : decode cX9_cite 79 = .ok (.getfield 19, 3) := by decide +kernel
theorem dX9_cite_82 : decode cX9_cite 82 = .ok (.invokevirtual 149, 3) := by decide +kernel
theorem dX9_cite_85 : decode cX9_cite 85 = .ok (.aload_n 0, 1) := by decide +kernel
theorem dX9_cite_86 : decode cX9_cite 86 = .ok (.getfield 19, 3) := by decide +kernel
theorem dX9_cite_89 : decode cX9_cite 89 = .ok (.iload_n 1, 1) := by decide +kernel
theorem dX9_cite_90 : decode cX9_cite 90 = .ok (.iload_n 2, 1) := by decide +kernel
theorem dX9_cite_91 : decode cX9_cite 91 = .ok (.iload_n 3, 1) := by decide +kernel
theorem dX9_cite_92 : decode cX9_cite 92 = .ok (.iload 4, 2) := by decide +kernel
theorem dX9_cite_94 : decode cX9_cite 94 = .ok (.iload_n 3, 1) := by decide +kernel
theorem dX9_cite_95 : decode cX9_cite 95 = .ok (.ifCond .ne 8, 3) := by decide +kernel
theorem dX9_cite_98 : decode cX9_cite 98 = .ok (.iload 5, 2) := by decide +kernel
theorem dX9_cite_100 : decode cX9_cite 100 = .ok (.goto 7, 3) := by decide +kernel
theorem dX9_cite_103 : decode cX9_cite 103 = .ok (.iload 4, 2) := by decide +kernel
theorem dX9_cite_105 : decode cX9_cite 105 = .ok (.iload_n 3, 1) := by decide +kernel
theorem dX9_cite_106 : decode cX9_cite 106 = .ok (.iadd, 1) := by decide +kernel
theorem dX9_cite_107 : decode cX9_cite 107 = .ok (.invokevirtual 175, 3) := by decide +kernel
theorem dX9_cite_110 : decode cX9_cite 110 = .ok (.aload_n 0, 1) := by decide +kernel
theorem dX9_cite_111 : decode cX9_cite 111 = .ok (.iload_n 1, 1) := by decide +kernel
theorem dX9_cite_112 : decode cX9_cite 112 = .ok (.invokevirtual 178, 3) := by decide +kernel
theorem dX9_cite_115 : decode cX9_cite 115 = .ok (.aload_n 0, 1) := by decide +kernel
theorem dX9_cite_116 : decode cX9_cite 116 = .ok (.getfield 74, 3) := by decide +kernel
theorem dX9_cite_119 : decode cX9_cite 119 = .ok (.invokevirtual 181, 3) := by decide +kernel
theorem dX9_cite_122 : decode cX9_cite 122 = .ok (.ireturn, 1) := by decide +kernel
theorem dX9_see_0 : decode cX9_see 0 = .ok (.iload_n 1, 1) := by decide +kernel
theorem dX9_see_1 : decode cX9_see 1 = .ok (.invokestatic 172, 3) := by decide +kernel
theorem dX9_see_4 : decode cX9_see 4 = .ok (.ifCond .eq 14, 3) := by decide +kernel
theorem dX9_see_7 : decode cX9_see 7 = .ok (.aload_n 0, 1) := by decide +kernel
theorem dX9_see_8 : decode cX9_see 8 = .ok (.getfield 19, 3) := by decide +kernel
theorem dX9_see_11 : decode cX9_see 11 = .ok (.iload_n 2, 1) := by decide +kernel
theorem dX9_see_12 : decode cX9_see 12 = .ok (.invokevirtual 191, 3) := by decide +kernel
theorem dX9_see_15 : decode cX9_see 15 = .ok (.ifCond .ne 6, 3) := by decide +kernel
theorem dX9_see_18 : decode cX9_see 18 = .ok (.ldc 88, 2) := by decide +kernel
theorem dX9_see_20 : decode cX9_see 20 = .ok (.ireturn, 1) := by decide +kernel
theorem dX9_see_21 : decode cX9_see 21 = .ok (.aload_n 0, 1) := by decide +kernel
theorem dX9_see_22 : decode cX9_see 22 = .ok (.getfield 19, 3) := by decide +kernel
theorem dX9_see_25 : decode cX9_see 25 = .ok (.invokevirtual 194, 3) := by decide +kernel
theorem dX9_see_28 : decode cX9_see 28 = .ok (.bipush 12, 2) := by decide +kernel
theorem dX9_see_30 : decode cX9_see 30 = .ok (.if_icmp .lt 6, 3) := by decide +kernel
theorem dX9_see_33 : decode cX9_see 33 = .ok (.ldc 97, 2) := by decide +kernel
theorem dX9_see_35 : decode cX9_see 35 = .ok (.ireturn, 1) := by decide +kernel
theorem dX9_see_36 : decode cX9_see 36 = .ok (.aload_n 0, 1) := by decide +kernel
theorem dX9_see_37 : decode cX9_see 37 = .ok (.getfield 38, 3) := by decide +kernel
theorem dX9_see_40 : decode cX9_see 40 = .ok (.aload_n 0, 1) := by decide +kernel
theorem dX9_see_41 : decode cX9_see 41 = .ok (.getfield 19, 3) := by decide +kernel
theorem dX9_see_44 : decode cX9_see 44 = .ok (.invokevirtual 149, 3) := by decide +kernel
theorem dX9_see_47 : decode cX9_see 47 = .ok (.aload_n 0, 1) := by decide +kernel
theorem dX9_see_48 : decode cX9_see 48 = .ok (.getfield 19, 3) := by decide +kernel
theorem dX9_see_51 : decode cX9_see 51 = .ok (.iload_n 1, 1) := by decide +kernel
theorem dX9_see_52 : decode cX9_see 52 = .ok (.iload_n 2, 1) := by decide +kernel
theorem dX9_see_53 : decode cX9_see 53 = .ok (.invokevirtual 197, 3) := by decide +kernel
theorem dX9_see_56 : decode cX9_see 56 = .ok (.aload_n 0, 1) := by decide +kernel
theorem dX9_see_57 : decode cX9_see 57 = .ok (.getfield 19, 3) := by decide +kernel
theorem dX9_see_60 : decode cX9_see 60 = .ok (.invokevirtual 194, 3) := by decide +kernel
theorem dX9_see_63 : decode cX9_see 63 = .ok (.ireturn, 1) := by decide +kernel
theorem dX9_stretch_0 : decode cX9_stretch 0 = .ok (.aload_n 0, 1) := by decide +kernel
theorem dX9_stretch_1 : decode cX9_stretch 1 = .ok (.getfield 19, 3) := by decide +kernel
theorem dX9_stretch_4 : decode cX9_stretch 4 = .ok (.iload_n 1, 1) := by decide +kernel
theorem dX9_stretch_5 : decode cX9_stretch 5 = .ok (.iload_n 2, 1) := by decide +kernel
theorem dX9_stretch_6 : decode cX9_stretch 6 = .ok (.invokevirtual 156, 3) := by decide +kernel
theorem dX9_stretch_9 : decode cX9_stretch 9 = .ok (.ifCond .eq 12, 3) := by decide +kernel
theorem dX9_stretch_12 : decode cX9_stretch 12 = .ok (.iload_n 3, 1) := by decide +kernel
theorem dX9_stretch_13 : decode cX9_stretch 13 = .ok (.ifCond .lt 8, 3) := by decide +kernel
theorem dX9_stretch_16 : decode cX9_stretch 16 = .ok (.iload_n 3, 1) := by decide +kernel
theorem dX9_stretch_17 : decode cX9_stretch 17 = .ok (.iconst 4, 1) := by decide +kernel
theorem dX9_stretch_18 : decode cX9_stretch 18 = .ok (.if_icmp .le 6, 3) := by decide +kernel
theorem dX9_stretch_21 : decode cX9_stretch 21 = .ok (.ldc 88, 2) := by decide +kernel
theorem dX9_stretch_23 : decode cX9_stretch 23 = .ok (.ireturn, 1) := by decide +kernel
theorem dX9_stretch_24 : decode cX9_stretch 24 = .ok (.iload_n 3, 1) := by decide +kernel
theorem dX9_stretch_25 : decode cX9_stretch 25 = .ok (.iconst 4, 1) := by decide +kernel
theorem dX9_stretch_26 : decode cX9_stretch 26 = .ok (.if_icmp .ge 14, 3) := by decide +kernel
theorem dX9_stretch_29 : decode cX9_stretch 29 = .ok (.aload_n 0, 1) := by decide +kernel
theorem dX9_stretch_30 : decode cX9_stretch 30 = .ok (.getfield 19, 3) := by decide +kernel
theorem dX9_stretch_33 : decode cX9_stretch 33 = .ok (.iload_n 1, 1) := by decide +kernel
theorem dX9_stretch_34 : decode cX9_stretch 34 = .ok (.iload_n 2, 1) := by decide +kernel
theorem dX9_stretch_35 : decode cX9_stretch 35 = .ok (.iload_n 3, 1) := by decide +kernel
theorem dX9_stretch_36 : decode cX9_stretch 36 = .ok (.invokevirtual 164, 3) := by decide +kernel
theorem dX9_stretch_39 : decode cX9_stretch 39 = .ok (.ireturn, 1) := by decide +kernel
theorem dX9_stretch_40 : decode cX9_stretch 40 = .ok (.aload_n 0, 1) := by decide +kernel
theorem dX9_stretch_41 : decode cX9_stretch 41 = .ok (.getfield 19, 3) := by decide +kernel
theorem dX9_stretch_44 : decode cX9_stretch 44 = .ok (.iload_n 1, 1) := by decide +kernel
theorem dX9_stretch_45 : decode cX9_stretch 45 = .ok (.iload_n 2, 1) := by decide +kernel
theorem dX9_stretch_46 : decode cX9_stretch 46 = .ok (.iconst 0, 1) := by decide +kernel
theorem dX9_stretch_47 : decode cX9_stretch 47 = .ok (.invokevirtual 164, 3) := by decide +kernel
theorem dX9_stretch_50 : decode cX9_stretch 50 = .ok (.aload_n 0, 1) := by decide +kernel
theorem dX9_stretch_51 : decode cX9_stretch 51 = .ok (.getfield 19, 3) := by decide +kernel
theorem dX9_stretch_54 : decode cX9_stretch 54 = .ok (.iload_n 1, 1) := by decide +kernel
theorem dX9_stretch_55 : decode cX9_stretch 55 = .ok (.iload_n 2, 1) := by decide +kernel
theorem dX9_stretch_56 : decode cX9_stretch 56 = .ok (.iconst 2, 1) := by decide +kernel
theorem dX9_stretch_57 : decode cX9_stretch 57 = .ok (.invokevirtual 164, 3) := by decide +kernel
theorem dX9_stretch_60 : decode cX9_stretch 60 = .ok (.aload_n 0, 1) := by decide +kernel
theorem dX9_stretch_61 : decode cX9_stretch 61 = .ok (.getfield 19, 3) := by decide +kernel
theorem dX9_stretch_64 : decode cX9_stretch 64 = .ok (.iload_n 1, 1) := by decide +kernel
theorem dX9_stretch_65 : decode cX9_stretch 65 = .ok (.iload_n 2, 1) := by decide +kernel
theorem dX9_stretch_66 : decode cX9_stretch 66 = .ok (.iconst 3, 1) := by decide +kernel
theorem dX9_stretch_67 : decode cX9_stretch 67 = .ok (.invokevirtual 164, 3) := by decide +kernel
theorem dX9_stretch_70 : decode cX9_stretch 70 = .ok (.invokestatic 200, 3) := by decide +kernel
theorem dX9_stretch_73 : decode cX9_stretch 73 = .ok (.ireturn, 1) := by decide +kernel
theorem dX9_as_0 : decode cX9_as 0 = .ok (.aload_n 0, 1) := by decide +kernel
theorem dX9_as_1 : decode cX9_as 1 = .ok (.getfield 19, 3) := by decide +kernel
theorem dX9_as_4 : decode cX9_as 4 = .ok (.iload_n 1, 1) := by decide +kernel
theorem dX9_as_5 : decode cX9_as 5 = .ok (.iload_n 2, 1) := by decide +kernel
theorem dX9_as_6 : decode cX9_as 6 = .ok (.invokevirtual 156, 3) := by decide +kernel
theorem dX9_as_9 : decode cX9_as 9 = .ok (.ifCond .eq 12, 3) := by decide +kernel
theorem dX9_as_12 : decode cX9_as 12 = .ok (.iload_n 3, 1) := by decide +kernel
theorem dX9_as_13 : decode cX9_as 13 = .ok (.ifCond .lt 8, 3) := by decide +kernel
theorem dX9_as_16 : decode cX9_as 16 = .ok (.iload_n 3, 1) := by decide +kernel
theorem dX9_as_17 : decode cX9_as 17 = .ok (.iconst 5, 1) := by decide +kernel
theorem dX9_as_18 : decode cX9_as 18 = .ok (.if_icmp .le 6, 3) := by decide +kernel
theorem dX9_as_21 : decode cX9_as 21 = .ok (.ldc 88, 2) := by decide +kernel
theorem dX9_as_23 : decode cX9_as 23 = .ok (.ireturn, 1) := by decide +kernel
theorem dX9_as_24 : decode cX9_as 24 = .ok (.aload_n 0, 1) := by decide +kernel
theorem dX9_as_25 : decode cX9_as 25 = .ok (.getfield 19, 3) := by decide +kernel
theorem dX9_as_28 : decode cX9_as 28 = .ok (.iload_n 1, 1) := by decide +kernel
theorem dX9_as_29 : decode cX9_as 29 = .ok (.iload_n 2, 1) := by decide +kernel
theorem dX9_as_30 : decode cX9_as 30 = .ok (.iconst 0, 1) := by decide +kernel
theorem dX9_as_31 : decode cX9_as 31 = .ok (.invokevirtual 164, 3) := by decide +kernel
theorem dX9_as_34 : decode cX9_as 34 = .ok (.iload_n 3, 1) := by decide +kernel
theorem dX9_as_35 : decode cX9_as 35 = .ok (.invokestatic 203, 3) := by decide +kernel
theorem dX9_as_38 : decode cX9_as 38 = .ok (.ifCond .eq 7, 3) := by decide +kernel
theorem dX9_as_41 : decode cX9_as 41 = .ok (.iload_n 2, 1) := by decide +kernel
theorem dX9_as_42 : decode cX9_as 42 = .ok (.goto 5, 3) := by decide +kernel
theorem dX9_as_45 : decode cX9_as 45 = .ok (.ldc 206, 2) := by decide +kernel
theorem dX9_as_47 : decode cX9_as 47 = .ok (.ireturn, 1) := by decide +kernel
theorem dX9_edition_0 : decode cX9_edition 0 = .ok (.aload_n 0, 1) := by decide +kernel
theorem dX9_edition_1 : decode cX9_edition 1 = .ok (.getfield 19, 3) := by decide +kernel
theorem dX9_edition_4 : decode cX9_edition 4 = .ok (.iload_n 1, 1) := by decide +kernel
theorem dX9_edition_5 : decode cX9_edition 5 = .ok (.invokevirtual 138, 3) := by decide +kernel
theorem dX9_edition_8 : decode cX9_edition 8 = .ok (.ifCond .eq 13, 3) := by decide +kernel
theorem dX9_edition_11 : decode cX9_edition 11 = .ok (.iload_n 2, 1) := by decide +kernel
theorem dX9_edition_12 : decode cX9_edition 12 = .ok (.ifCond .lt 9, 3) := by decide +kernel
theorem dX9_edition_15 : decode cX9_edition 15 = .ok (.iload_n 2, 1) := by decide +kernel
theorem dX9_edition_16 : decode cX9_edition 16 = .ok (.bipush 6, 2) := by decide +kernel
theorem dX9_edition_18 : decode cX9_edition 18 = .ok (.if_icmp .le 6, 3) := by decide +kernel
theorem dX9_edition_21 : decode cX9_edition 21 = .ok (.ldc 88, 2) := by decide +kernel
theorem dX9_edition_23 : decode cX9_edition 23 = .ok (.ireturn, 1) := by decide +kernel
theorem dX9_edition_24 : decode cX9_edition 24 = .ok (.iload_n 2, 1) := by decide +kernel
theorem dX9_edition_25 : decode cX9_edition 25 = .ok (.ifCond .ne 12, 3) := by decide +kernel
theorem dX9_edition_28 : decode cX9_edition 28 = .ok (.aload_n 0, 1) := by decide +kernel
theorem dX9_edition_29 : decode cX9_edition 29 = .ok (.getfield 19, 3) := by decide +kernel
theorem dX9_edition_32 : decode cX9_edition 32 = .ok (.iload_n 1, 1) := by decide +kernel
theorem dX9_edition_33 : decode cX9_edition 33 = .ok (.invokevirtual 145, 3) := by decide +kernel
theorem dX9_edition_36 : decode cX9_edition 36 = .ok (.ireturn, 1) := by decide +kernel
theorem dX9_edition_37 : decode cX9_edition 37 = .ok (.aload_n 0, 1) := by decide +kernel
theorem dX9_edition_38 : decode cX9_edition 38 = .ok (.getfield 51, 3) := by decide +kernel
theorem dX9_edition_41 : decode cX9_edition 41 = .ok (.aload_n 0, 1) := by decide +kernel
theorem dX9_edition_42 : decode cX9_edition 42 = .ok (.getfield 19, 3) := by decide +kernel
theorem dX9_edition_45 : decode cX9_edition 45 = .ok (.iload_n 1, 1) := by decide +kernel
theorem dX9_edition_46 : decode cX9_edition 46 = .ok (.invokevirtual 207, 3) := by decide +kernel
theorem dX9_edition_49 : decode cX9_edition 49 = .ok (.iload_n 2, 1) := by decide +kernel
theorem dX9_edition_50 : decode cX9_edition 50 = .ok (.iconst 1, 1) := by decide +kernel
theorem dX9_edition_51 : decode cX9_edition 51 = .ok (.if_icmp .ne 11, 3) := by decide +kernel
theorem dX9_edition_54 : decode cX9_edition 54 = .ok (.aload_n 0, 1) := by decide +kernel
theorem dX9_edition_55 : decode cX9_edition 55 = .ok (.getfield 51, 3) := by decide +kernel
theorem dX9_edition_58 : decode cX9_edition 58 = .ok (.invokevirtual 211, 3) := by decide +kernel
theorem dX9_edition_61 : decode cX9_edition 61 = .ok (.ireturn, 1) := by decide +kernel
theorem dX9_edition_62 : decode cX9_edition 62 = .ok (.aload_n 0, 1) := by decide +kernel
theorem dX9_edition_63 : decode cX9_edition 63 = .ok (.getfield 64, 3) := by decide +kernel
theorem dX9_edition_66 : decode cX9_edition 66 = .ok (.aload_n 0, 1) := by decide +kernel
theorem dX9_edition_67 : decode cX9_edition 67 = .ok (.getfield 51, 3) := by decide +kernel
theorem dX9_edition_70 : decode cX9_edition 70 = .ok (.invokevirtual 214, 3) := by decide +kernel
theorem dX9_edition_73 : decode cX9_edition 73 = .ok (.iload_n 2, 1) := by decide +kernel
theorem dX9_edition_74 : decode cX9_edition 74 = .ok (.iconst 5, 1) := by decide +kernel
theorem dX9_edition_75 : decode cX9_edition 75 = .ok (.if_icmp .ne 11, 3) := by decide +kernel
theorem dX9_edition_78 : decode cX9_edition 78 = .ok (.aload_n 0, 1) := by decide +kernel
theorem dX9_edition_79 : decode cX9_edition 79 = .ok (.getfield 64, 3) := by decide +kernel
theorem dX9_edition_82 : decode cX9_edition 82 = .ok (.invokevirtual 218, 3) := by decide +kernel
theorem dX9_edition_85 : decode cX9_edition 85 = .ok (.ireturn, 1) := by decide +kernel
theorem dX9_edition_86 : decode cX9_edition 86 = .ok (.iload_n 2, 1) := by decide +kernel
theorem dX9_edition_87 : decode cX9_edition 87 = .ok (.bipush 6, 2) := by decide +kernel
theorem dX9_edition_89 : decode cX9_edition 89 = .ok (.if_icmp .ne 11, 3) := by decide +kernel
theorem dX9_edition_92 : decode cX9_edition 92 = .ok (.aload_n 0, 1) := by decide +kernel
theorem dX9_edition_93 : decode cX9_edition 93 = .ok (.getfield 64, 3) := by decide +kernel
theorem dX9_edition_96 : decode cX9_edition 96 = .ok (.invokevirtual 221, 3) := by decide +kernel
theorem dX9_edition_99 : decode cX9_edition 99 = .ok (.ireturn, 1) := by decide +kernel
theorem dX9_edition_100 : decode cX9_edition 100 = .ok (.aload_n 0, 1) := by decide +kernel
theorem dX9_edition_101 : decode cX9_edition 101 = .ok (.getfield 64, 3) := by decide +kernel
theorem dX9_edition_104 : decode cX9_edition 104 = .ok (.aload_n 0, 1) := by decide +kernel
theorem dX9_edition_105 : decode cX9_edition 105 = .ok (.getfield 74, 3) := by decide +kernel
theorem dX9_edition_108 : decode cX9_edition 108 = .ok (.invokevirtual 224, 3) := by decide +kernel
theorem dX9_edition_111 : decode cX9_edition 111 = .ok (.aload_n 0, 1) := by decide +kernel
theorem dX9_edition_112 : decode cX9_edition 112 = .ok (.getfield 74, 3) := by decide +kernel
theorem dX9_edition_115 : decode cX9_edition 115 = .ok (.iload_n 2, 1) := by decide +kernel
theorem dX9_edition_116 : decode cX9_edition 116 = .ok (.iconst 2, 1) := by decide +kernel
theorem dX9_edition_117 : decode cX9_edition 117 = .ok (.isub, 1) := by decide +kernel
theorem dX9_edition_118 : decode cX9_edition 118 = .ok (.invokevirtual 228, 3) := by decide +kernel
theorem dX9_edition_121 : decode cX9_edition 121 = .ok (.ireturn, 1) := by decide +kernel
theorem dX9_number_0 : decode cX9_number 0 = .ok (.aload_n 0, 1) := by decide +kernel
theorem dX9_number_1 : decode cX9_number 1 = .ok (.getfield 19, 3) := by decide +kernel
theorem dX9_number_4 : decode cX9_number 4 = .ok (.iload_n 1, 1) := by decide +kernel
theorem dX9_number_5 : decode cX9_number 5 = .ok (.invokevirtual 138, 3) := by decide +kernel
theorem dX9_number_8 : decode cX9_number 8 = .ok (.ifCond .eq 23, 3) := by decide +kernel
theorem dX9_number_11 : decode cX9_number 11 = .ok (.aload_n 0, 1) := by decide +kernel
theorem dX9_number_12 : decode cX9_number 12 = .ok (.getfield 19, 3) := by decide +kernel
theorem dX9_number_15 : decode cX9_number 15 = .ok (.iload_n 2, 1) := by decide +kernel
theorem dX9_number_16 : decode cX9_number 16 = .ok (.invokevirtual 191, 3) := by decide +kernel
theorem dX9_number_19 : decode cX9_number 19 = .ok (.ifCond .eq 12, 3) := by decide +kernel
theorem dX9_number_22 : decode cX9_number 22 = .ok (.iload_n 3, 1) := by decide +kernel
theorem dX9_number_23 : decode cX9_number 23 = .ok (.ifCond .lt 8, 3) := by decide +kernel
theorem dX9_number_26 : decode cX9_number 26 = .ok (.iload_n 3, 1) := by decide +kernel
theorem dX9_number_27 : decode cX9_number 27 = .ok (.iconst 1, 1) := by decide +kernel
theorem dX9_number_28 : decode cX9_number 28 = .ok (.if_icmp .le 6, 3) := by decide +kernel
theorem dX9_number_31 : decode cX9_number 31 = .ok (.ldc 88, 2) := by decide +kernel
theorem dX9_number_33 : decode cX9_number 33 = .ok (.ireturn, 1) := by decide +kernel
theorem dX9_number_34 : decode cX9_number 34 = .ok (.aload_n 0, 1) := by decide +kernel
theorem dX9_number_35 : decode cX9_number 35 = .ok (.getfield 51, 3) := by decide +kernel
theorem dX9_number_38 : decode cX9_number 38 = .ok (.aload_n 0, 1) := by decide +kernel
theorem dX9_number_39 : decode cX9_number 39 = .ok (.getfield 19, 3) := by decide +kernel
theorem dX9_number_42 : decode cX9_number 42 = .ok (.iload_n 1, 1) := by decide +kernel
theorem dX9_number_43 : decode cX9_number 43 = .ok (.invokevirtual 207, 3) := by decide +kernel
theorem dX9_number_46 : decode cX9_number 46 = .ok (.aload_n 0, 1) := by decide +kernel
theorem dX9_number_47 : decode cX9_number 47 = .ok (.getfield 51, 3) := by decide +kernel
theorem dX9_number_50 : decode cX9_number 50 = .ok (.iload_n 2, 1) := by decide +kernel
theorem dX9_number_51 : decode cX9_number 51 = .ok (.invokevirtual 231, 3) := by decide +kernel
theorem dX9_number_54 : decode cX9_number 54 = .ok (.ifCond .ne 6, 3) := by decide +kernel
theorem dX9_number_57 : decode cX9_number 57 = .ok (.ldc 206, 2) := by decide +kernel
theorem dX9_number_59 : decode cX9_number 59 = .ok (.ireturn, 1) := by decide +kernel
theorem dX9_number_60 : decode cX9_number 60 = .ok (.iload_n 3, 1) := by decide +kernel
theorem dX9_number_61 : decode cX9_number 61 = .ok (.ifCond .ne 14, 3) := by decide +kernel
theorem dX9_number_64 : decode cX9_number 64 = .ok (.aload_n 0, 1) := by decide +kernel
theorem dX9_number_65 : decode cX9_number 65 = .ok (.getfield 51, 3) := by decide +kernel
theorem dX9_number_68 : decode cX9_number 68 = .ok (.iload_n 2, 1) := by decide +kernel
theorem dX9_number_69 : decode cX9_number 69 = .ok (.invokevirtual 234, 3) := by decide +kernel
theorem dX9_number_72 : decode cX9_number 72 = .ok (.goto 11, 3) := by decide +kernel
theorem dX9_number_75 : decode cX9_number 75 = .ok (.aload_n 0, 1) := by decide +kernel
theorem dX9_number_76 : decode cX9_number 76 = .ok (.getfield 51, 3) := by decide +kernel
theorem dX9_number_79 : decode cX9_number 79 = .ok (.iload_n 2, 1) := by decide +kernel
theorem dX9_number_80 : decode cX9_number 80 = .ok (.invokevirtual 237, 3) := by decide +kernel
theorem dX9_number_83 : decode cX9_number 83 = .ok (.ireturn, 1) := by decide +kernel
theorem dX9_meant_0 : decode cX9_meant 0 = .ok (.aload_n 0, 1) := by decide +kernel
theorem dX9_meant_1 : decode cX9_meant 1 = .ok (.getfield 19, 3) := by decide +kernel
theorem dX9_meant_4 : decode cX9_meant 4 = .ok (.iload_n 1, 1) := by decide +kernel
theorem dX9_meant_5 : decode cX9_meant 5 = .ok (.invokevirtual 138, 3) := by decide +kernel
theorem dX9_meant_8 : decode cX9_meant 8 = .ok (.ifCond .eq 10, 3) := by decide +kernel
theorem dX9_meant_11 : decode cX9_meant 11 = .ok (.iload_n 2, 1) := by decide +kernel
theorem dX9_meant_12 : decode cX9_meant 12 = .ok (.invokestatic 172, 3) := by decide +kernel
theorem dX9_meant_15 : decode cX9_meant 15 = .ok (.ifCond .ne 6, 3) := by decide +kernel
theorem dX9_meant_18 : decode cX9_meant 18 = .ok (.ldc 88, 2) := by decide +kernel
theorem dX9_meant_20 : decode cX9_meant 20 = .ok (.ireturn, 1) := by decide +kernel
theorem dX9_meant_21 : decode cX9_meant 21 = .ok (.iload_n 3, 1) := by decide +kernel
theorem dX9_meant_22 : decode cX9_meant 22 = .ok (.ifCond .lt 14, 3) := by decide +kernel
theorem dX9_meant_25 : decode cX9_meant 25 = .ok (.iload_n 3, 1) := by decide +kernel
theorem dX9_meant_26 : decode cX9_meant 26 = .ok (.iconst 2, 1) := by decide +kernel
theorem dX9_meant_27 : decode cX9_meant 27 = .ok (.if_icmp .le 12, 3) := by decide +kernel
theorem dX9_meant_30 : decode cX9_meant 30 = .ok (.iload_n 3, 1) := by decide +kernel
theorem dX9_meant_31 : decode cX9_meant 31 = .ok (.bipush 10, 2) := by decide +kernel
theorem dX9_meant_33 : decode cX9_meant 33 = .ok (.if_icmp .ge 6, 3) := by decide +kernel
theorem dX9_meant_36 : decode cX9_meant 36 = .ok (.ldc 88, 2) := by decide +kernel
theorem dX9_meant_38 : decode cX9_meant 38 = .ok (.ireturn, 1) := by decide +kernel
theorem dX9_meant_39 : decode cX9_meant 39 = .ok (.aload_n 0, 1) := by decide +kernel
theorem dX9_meant_40 : decode cX9_meant 40 = .ok (.getfield 51, 3) := by decide +kernel
theorem dX9_meant_43 : decode cX9_meant 43 = .ok (.aload_n 0, 1) := by decide +kernel
theorem dX9_meant_44 : decode cX9_meant 44 = .ok (.getfield 19, 3) := by decide +kernel
theorem dX9_meant_47 : decode cX9_meant 47 = .ok (.iload_n 1, 1) := by decide +kernel
theorem dX9_meant_48 : decode cX9_meant 48 = .ok (.invokevirtual 207, 3) := by decide +kernel
theorem dX9_meant_51 : decode cX9_meant 51 = .ok (.iload_n 3, 1) := by decide +kernel
theorem dX9_meant_52 : decode cX9_meant 52 = .ok (.bipush 10, 2) := by decide +kernel
theorem dX9_meant_54 : decode cX9_meant 54 = .ok (.if_icmp .lt 16, 3) := by decide +kernel
theorem dX9_meant_57 : decode cX9_meant 57 = .ok (.aload_n 0, 1) := by decide +kernel
theorem dX9_meant_58 : decode cX9_meant 58 = .ok (.getfield 51, 3) := by decide +kernel
theorem dX9_meant_61 : decode cX9_meant 61 = .ok (.iload_n 2, 1) := by decide +kernel
theorem dX9_meant_62 : decode cX9_meant 62 = .ok (.iload_n 3, 1) := by decide +kernel
theorem dX9_meant_63 : decode cX9_meant 63 = .ok (.bipush 10, 2) := by decide +kernel
theorem dX9_meant_65 : decode cX9_meant 65 = .ok (.isub, 1) := by decide +kernel
theorem dX9_meant_66 : decode cX9_meant 66 = .ok (.invokevirtual 240, 3) := by decide +kernel
theorem dX9_meant_69 : decode cX9_meant 69 = .ok (.ireturn, 1) := by decide +kernel
theorem dX9_meant_70 : decode cX9_meant 70 = .ok (.aload_n 0, 1) := by decide +kernel
theorem dX9_meant_71 : decode cX9_meant 71 = .ok (.getfield 51, 3) := by decide +kernel
theorem dX9_meant_74 : decode cX9_meant 74 = .ok (.iload_n 2, 1) := by decide +kernel
theorem dX9_meant_75 : decode cX9_meant 75 = .ok (.iload_n 2, 1) := by decide +kernel
theorem dX9_meant_76 : decode cX9_meant 76 = .ok (.aload_n 0, 1) := by decide +kernel
theorem dX9_meant_77 : decode cX9_meant 77 = .ok (.getfield 74, 3) := by decide +kernel
theorem dX9_meant_80 : decode cX9_meant 80 = .ok (.invokevirtual 244, 3) := by decide +kernel
theorem dX9_meant_83 : decode cX9_meant 83 = .ok (.aload_n 0, 1) := by decide +kernel
theorem dX9_meant_84 : decode cX9_meant 84 = .ok (.getfield 74, 3) := by decide +kernel
theorem dX9_meant_87 : decode cX9_meant 87 = .ok (.iload_n 3, 1) := by decide +kernel
theorem dX9_meant_88 : decode cX9_meant 88 = .ok (.invokevirtual 228, 3) := by decide +kernel
theorem dX9_meant_91 : decode cX9_meant 91 = .ok (.ireturn, 1) := by decide +kernel
theorem dX9_left_0 : decode cX9_left 0 = .ok (.aload_n 0, 1) := by decide +kernel
theorem dX9_left_1 : decode cX9_left 1 = .ok (.getfield 19, 3) := by decide +kernel
theorem dX9_left_4 : decode cX9_left 4 = .ok (.iload_n 1, 1) := by decide +kernel
theorem dX9_left_5 : decode cX9_left 5 = .ok (.invokevirtual 138, 3) := by decide +kernel
theorem dX9_left_8 : decode cX9_left 8 = .ok (.ifCond .eq 16, 3) := by decide +kernel
theorem dX9_left_11 : decode cX9_left 11 = .ok (.iload_n 2, 1) := by decide +kernel
theorem dX9_left_12 : decode cX9_left 12 = .ok (.ifCond .lt 12, 3) := by decide +kernel
theorem dX9_left_15 : decode cX9_left 15 = .ok (.iload_n 3, 1) := by decide +kernel
theorem dX9_left_16 : decode cX9_left 16 = .ok (.ifCond .lt 8, 3) := by decide +kernel
theorem dX9_left_19 : decode cX9_left 19 = .ok (.iload_n 3, 1) := by decide +kernel
theorem dX9_left_20 : decode cX9_left 20 = .ok (.iconst 1, 1) := by decide +kernel
theorem dX9_left_21 : decode cX9_left 21 = .ok (.if_icmp .le 6, 3) := by decide +kernel
theorem dX9_left_24 : decode cX9_left 24 = .ok (.ldc 88, 2) := by decide +kernel
theorem dX9_left_26 : decode cX9_left 26 = .ok (.ireturn, 1) := by decide +kernel
theorem dX9_left_27 : decode cX9_left 27 = .ok (.aload_n 0, 1) := by decide +kernel
theorem dX9_left_28 : decode cX9_left 28 = .ok (.getfield 51, 3) := by decide +kernel
theorem dX9_left_31 : decode cX9_left 31 = .ok (.aload_n 0, 1) := by decide +kernel
theorem dX9_left_32 : decode cX9_left 32 = .ok (.getfield 19, 3) := by decide +kernel
theorem dX9_left_35 : decode cX9_left 35 = .ok (.iload_n 1, 1) := by decide +kernel
theorem dX9_left_36 : decode cX9_left 36 = .ok (.invokevirtual 207, 3) := by decide +kernel
theorem dX9_left_39 : decode cX9_left 39 = .ok (.iconst (-1), 1) := by decide +kernel
theorem dX9_left_40 : decode cX9_left 40 = .ok (.istore 4, 2) := by decide +kernel
theorem dX9_left_42 : decode cX9_left 42 = .ok (.iconst 0, 1) := by decide +kernel
theorem dX9_left_43 : decode cX9_left 43 = .ok (.istore 5, 2) := by decide +kernel
theorem dX9_left_45 : decode cX9_left 45 = .ok (.iload 5, 2) := by decide +kernel
theorem dX9_left_47 : decode cX9_left 47 = .ok (.aload_n 0, 1) := by decide +kernel
theorem dX9_left_48 : decode cX9_left 48 = .ok (.getfield 19, 3) := by decide +kernel
theorem dX9_left_51 : decode cX9_left 51 = .ok (.invokevirtual 248, 3) := by decide +kernel
theorem dX9_left_54 : decode cX9_left 54 = .ok (.if_icmp .ge 52, 3) := by decide +kernel
theorem dX9_left_57 : decode cX9_left 57 = .ok (.aload_n 0, 1) := by decide +kernel
theorem dX9_left_58 : decode cX9_left 58 = .ok (.getfield 51, 3) := by decide +kernel
theorem dX9_left_61 : decode cX9_left 61 = .ok (.iload 5, 2) := by decide +kernel
theorem dX9_left_63 : decode cX9_left 63 = .ok (.invokevirtual 251, 3) := by decide +kernel
theorem dX9_left_66 : decode cX9_left 66 = .ok (.ifCond .ne 6, 3) := by decide +kernel
theorem dX9_left_69 : decode cX9_left 69 = .ok (.goto 31, 3) := by decide +kernel
theorem dX9_left_72 : decode cX9_left 72 = .ok (.iinc 4 1, 3) := by decide +kernel
theorem dX9_left_75 : decode cX9_left 75 = .ok (.iload 4, 2) := by decide +kernel
theorem dX9_left_77 : decode cX9_left 77 = .ok (.iload_n 2, 1) := by decide +kernel
theorem dX9_left_78 : decode cX9_left 78 = .ok (.if_icmp .ne 22, 3) := by decide +kernel
theorem dX9_left_81 : decode cX9_left 81 = .ok (.iload_n 3, 1) := by decide +kernel
theorem dX9_left_82 : decode cX9_left 82 = .ok (.ifCond .ne 8, 3) := by decide +kernel
theorem dX9_left_85 : decode cX9_left 85 = .ok (.iload 5, 2) := by decide +kernel
theorem dX9_left_87 : decode cX9_left 87 = .ok (.goto 12, 3) := by decide +kernel
theorem dX9_left_90 : decode cX9_left 90 = .ok (.aload_n 0, 1) := by decide +kernel
theorem dX9_left_91 : decode cX9_left 91 = .ok (.getfield 51, 3) := by decide +kernel
theorem dX9_left_94 : decode cX9_left 94 = .ok (.iload 5, 2) := by decide +kernel
theorem dX9_left_96 : decode cX9_left 96 = .ok (.invokevirtual 254, 3) := by decide +kernel
theorem dX9_left_99 : decode cX9_left 99 = .ok (.ireturn, 1) := by decide +kernel
theorem dX9_left_100 : decode cX9_left 100 = .ok (.iinc 5 1, 3) := by decide +kernel
theorem dX9_left_103 : decode cX9_left 103 = .ok (.goto (-58), 3) := by decide +kernel
theorem dX9_left_106 : decode cX9_left 106 = .ok (.ldc 206, 2) := by decide +kernel
theorem dX9_left_108 : decode cX9_left 108 = .ok (.ireturn, 1) := by decide +kernel
theorem dX9_in_0 : decode cX9_in 0 = .ok (.aload_n 0, 1) := by decide +kernel
theorem dX9_in_1 : decode cX9_in 1 = .ok (.getfield 19, 3) := by decide +kernel
theorem dX9_in_4 : decode cX9_in 4 = .ok (.iload_n 1, 1) := by decide +kernel
theorem dX9_in_5 : decode cX9_in 5 = .ok (.invokevirtual 138, 3) := by decide +kernel
theorem dX9_in_8 : decode cX9_in 8 = .ok (.ifCond .eq 21, 3) := by decide +kernel
theorem dX9_in_11 : decode cX9_in 11 = .ok (.aload_n 0, 1) := by decide +kernel
theorem dX9_in_12 : decode cX9_in 12 = .ok (.getfield 19, 3) := by decide +kernel
theorem dX9_in_15 : decode cX9_in 15 = .ok (.iload_n 3, 1) := by decide +kernel
theorem dX9_in_16 : decode cX9_in 16 = .ok (.invokevirtual 138, 3) := by decide +kernel
theorem dX9_in_19 : decode cX9_in 19 = .ok (.ifCond .eq 10, 3) := by decide +kernel
theorem dX9_in_22 : decode cX9_in 22 = .ok (.iload_n 2, 1) := by decide +kernel
theorem dX9_in_23 : decode cX9_in 23 = .ok (.invokestatic 172, 3) := by decide +kernel
theorem dX9_in_26 : decode cX9_in 26 = .ok (.ifCond .ne 6, 3) := by decide +kernel
theorem dX9_in_29 : decode cX9_in 29 = .ok (.ldc 88, 2) := by decide +kernel
theorem dX9_in_31 : decode cX9_in 31 = .ok (.ireturn, 1) := by decide +kernel
theorem dX9_in_32 : decode cX9_in 32 = .ok (.iload 4, 2) := by decide +kernel
theorem dX9_in_34 : decode cX9_in 34 = .ok (.ifCond .lt 9, 3) := by decide +kernel
theorem dX9_in_37 : decode cX9_in 37 = .ok (.iload 4, 2) := by decide +kernel
theorem dX9_in_39 : decode cX9_in 39 = .ok (.iconst 2, 1) := by decide +kernel
theorem dX9_in_40 : decode cX9_in 40 = .ok (.if_icmp .le 6, 3) := by decide +kernel
theorem dX9_in_43 : decode cX9_in 43 = .ok (.ldc 88, 2) := by decide +kernel
theorem dX9_in_45 : decode cX9_in 45 = .ok (.ireturn, 1) := by decide +kernel
theorem dX9_in_46 : decode cX9_in 46 = .ok (.aload_n 0, 1) := by decide +kernel
theorem dX9_in_47 : decode cX9_in 47 = .ok (.getfield 51, 3) := by decide +kernel
theorem dX9_in_50 : decode cX9_in 50 = .ok (.aload_n 0, 1) := by decide +kernel
theorem dX9_in_51 : decode cX9_in 51 = .ok (.getfield 19, 3) := by decide +kernel
theorem dX9_in_54 : decode cX9_in 54 = .ok (.iload_n 1, 1) := by decide +kernel
theorem dX9_in_55 : decode cX9_in 55 = .ok (.invokevirtual 207, 3) := by decide +kernel
theorem dX9_in_58 : decode cX9_in 58 = .ok (.aload_n 0, 1) := by decide +kernel
theorem dX9_in_59 : decode cX9_in 59 = .ok (.getfield 55, 3) := by decide +kernel
theorem dX9_in_62 : decode cX9_in 62 = .ok (.aload_n 0, 1) := by decide +kernel
theorem dX9_in_63 : decode cX9_in 63 = .ok (.getfield 19, 3) := by decide +kernel
theorem dX9_in_66 : decode cX9_in 66 = .ok (.iload_n 3, 1) := by decide +kernel
theorem dX9_in_67 : decode cX9_in 67 = .ok (.invokevirtual 207, 3) := by decide +kernel
theorem dX9_in_70 : decode cX9_in 70 = .ok (.aload_n 0, 1) := by decide +kernel
theorem dX9_in_71 : decode cX9_in 71 = .ok (.getfield 85, 3) := by decide +kernel
theorem dX9_in_74 : decode cX9_in 74 = .ok (.iload_n 2, 1) := by decide +kernel
theorem dX9_in_75 : decode cX9_in 75 = .ok (.aload_n 0, 1) := by decide +kernel
theorem dX9_in_76 : decode cX9_in 76 = .ok (.getfield 51, 3) := by decide +kernel
theorem dX9_in_79 : decode cX9_in 79 = .ok (.aload_n 0, 1) := by decide +kernel
theorem dX9_in_80 : decode cX9_in 80 = .ok (.getfield 55, 3) := by decide +kernel
theorem dX9_in_83 : decode cX9_in 83 = .ok (.invokevirtual 257, 3) := by decide +kernel
theorem dX9_in_86 : decode cX9_in 86 = .ok (.aload_n 0, 1) := by decide +kernel
theorem dX9_in_87 : decode cX9_in 87 = .ok (.getfield 85, 3) := by decide +kernel
theorem dX9_in_90 : decode cX9_in 90 = .ok (.iload 4, 2) := by decide +kernel
theorem dX9_in_92 : decode cX9_in 92 = .ok (.invokevirtual 261, 3) := by decide +kernel
theorem dX9_in_95 : decode cX9_in 95 = .ok (.ireturn, 1) := by decide +kernel
theorem dX9_through_0 : decode cX9_through 0 = .ok (.aload_n 0, 1) := by decide +kernel
theorem dX9_through_1 : decode cX9_through 1 = .ok (.getfield 19, 3) := by decide +kernel
theorem dX9_through_4 : decode cX9_through 4 = .ok (.iload_n 1, 1) := by decide +kernel
theorem dX9_through_5 : decode cX9_through 5 = .ok (.invokevirtual 138, 3) := by decide +kernel
theorem dX9_through_8 : decode cX9_through 8 = .ok (.ifCond .eq 26, 3) := by decide +kernel
theorem dX9_through_11 : decode cX9_through 11 = .ok (.aload_n 0, 1) := by decide +kernel
theorem dX9_through_12 : decode cX9_through 12 = .ok (.getfield 19, 3) := by decide +kernel
theorem dX9_through_15 : decode cX9_through 15 = .ok (.iload 4, 2) := by decide +kernel
theorem dX9_through_17 : decode cX9_through 17 = .ok (.invokevirtual 138, 3) := by decide +kernel
theorem dX9_through_20 : decode cX9_through 20 = .ok (.ifCond .eq 14, 3) := by decide +kernel
theorem dX9_through_23 : decode cX9_through 23 = .ok (.aload_n 0, 1) := by decide +kernel
theorem dX9_through_24 : decode cX9_through 24 = .ok (.getfield 19, 3) := by decide +kernel
theorem dX9_through_27 : decode cX9_through 27 = .ok (.iload_n 3, 1) := by decide +kernel
theorem dX9_through_28 : decode cX9_through 28 = .ok (.invokevirtual 138, 3) := by decide +kernel
theorem dX9_through_31 : decode cX9_through 31 = .ok (.ifCond .ne 6, 3) := by decide +kernel
theorem dX9_through_34 : decode cX9_through 34 = .ok (.ldc 88, 2) := by decide +kernel
theorem dX9_through_36 : decode cX9_through 36 = .ok (.ireturn, 1) := by decide +kernel
theorem dX9_through_37 : decode cX9_through 37 = .ok (.iload_n 2, 1) := by decide +kernel
theorem dX9_through_38 : decode cX9_through 38 = .ok (.invokestatic 172, 3) := by decide +kernel
theorem dX9_through_41 : decode cX9_through 41 = .ok (.ifCond .eq 14, 3) := by decide +kernel
theorem dX9_through_44 : decode cX9_through 44 = .ok (.iload 5, 2) := by decide +kernel
theorem dX9_through_46 : decode cX9_through 46 = .ok (.ifCond .lt 9, 3) := by decide +kernel
theorem dX9_through_49 : decode cX9_through 49 = .ok (.iload 5, 2) := by decide +kernel
theorem dX9_through_51 : decode cX9_through 51 = .ok (.iconst 2, 1) := by decide +kernel
theorem dX9_through_52 : decode cX9_through 52 = .ok (.if_icmp .le 6, 3) := by decide +kernel
theorem dX9_through_55 : decode cX9_through 55 = .ok (.ldc 88, 2) := by decide +kernel
theorem dX9_through_57 : decode cX9_through 57 = .ok (.ireturn, 1) := by decide +kernel
theorem dX9_through_58 : decode cX9_through 58 = .ok (.aload_n 0, 1) := by decide +kernel
theorem dX9_through_59 : decode cX9_through 59 = .ok (.getfield 51, 3) := by decide +kernel
theorem dX9_through_62 : decode cX9_through 62 = .ok (.aload_n 0, 1) := by decide +kernel
theorem dX9_through_63 : decode cX9_through 63 = .ok (.getfield 19, 3) := by decide +kernel
theorem dX9_through_66 : decode cX9_through 66 = .ok (.iload_n 1, 1) := by decide +kernel
theorem dX9_through_67 : decode cX9_through 67 = .ok (.invokevirtual 207, 3) := by decide +kernel
theorem dX9_through_70 : decode cX9_through 70 = .ok (.aload_n 0, 1) := by decide +kernel
theorem dX9_through_71 : decode cX9_through 71 = .ok (.getfield 58, 3) := by decide +kernel
theorem dX9_through_74 : decode cX9_through 74 = .ok (.aload_n 0, 1) := by decide +kernel
theorem dX9_through_75 : decode cX9_through 75 = .ok (.getfield 19, 3) := by decide +kernel
theorem dX9_through_78 : decode cX9_through 78 = .ok (.iload_n 3, 1) := by decide +kernel
theorem dX9_through_79 : decode cX9_through 79 = .ok (.invokevirtual 207, 3) := by decide +kernel
theorem dX9_through_82 : decode cX9_through 82 = .ok (.aload_n 0, 1) := by decide +kernel
theorem dX9_through_83 : decode cX9_through 83 = .ok (.getfield 55, 3) := by decide +kernel
theorem dX9_through_86 : decode cX9_through 86 = .ok (.aload_n 0, 1) := by decide +kernel
theorem dX9_through_87 : decode cX9_through 87 = .ok (.getfield 19, 3) := by decide +kernel
theorem dX9_through_90 : decode cX9_through 90 = .ok (.iload 4, 2) := by decide +kernel
theorem dX9_through_92 : decode cX9_through 92 = .ok (.invokevirtual 207, 3) := by decide +kernel
theorem dX9_through_95 : decode cX9_through 95 = .ok (.aload_n 0, 1) := by decide +kernel
theorem dX9_through_96 : decode cX9_through 96 = .ok (.getfield 81, 3) := by decide +kernel
theorem dX9_through_99 : decode cX9_through 99 = .ok (.iload_n 2, 1) := by decide +kernel
theorem dX9_through_100 : decode cX9_through 100 = .ok (.aload_n 0, 1) := by decide +kernel
theorem dX9_through_101 : decode cX9_through 101 = .ok (.getfield 51, 3) := by decide +kernel
theorem dX9_through_104 : decode cX9_through 104 = .ok (.aload_n 0, 1) := by decide +kernel
theorem dX9_through_105 : decode cX9_through 105 = .ok (.getfield 58, 3) := by decide +kernel
theorem dX9_through_108 : decode cX9_through 108 = .ok (.invokevirtual 257, 3) := by decide +kernel
theorem dX9_through_111 : decode cX9_through 111 = .ok (.aload_n 0, 1) := by decide +kernel
theorem dX9_through_112 : decode cX9_through 112 = .ok (.getfield 85, 3) := by decide +kernel
theorem dX9_through_115 : decode cX9_through 115 = .ok (.aload_n 0, 1) := by decide +kernel
theorem dX9_through_116 : decode cX9_through 116 = .ok (.getfield 81, 3) := by decide +kernel
theorem dX9_through_119 : decode cX9_through 119 = .ok (.aload_n 0, 1) := by decide +kernel
theorem dX9_through_120 : decode cX9_through 120 = .ok (.getfield 58, 3) := by decide +kernel
theorem dX9_through_123 : decode cX9_through 123 = .ok (.aload_n 0, 1) := by decide +kernel
theorem dX9_through_124 : decode cX9_through 124 = .ok (.getfield 55, 3) := by decide +kernel
theorem dX9_through_127 : decode cX9_through 127 = .ok (.invokevirtual 262, 3) := by decide +kernel
theorem dX9_through_130 : decode cX9_through 130 = .ok (.aload_n 0, 1) := by decide +kernel
theorem dX9_through_131 : decode cX9_through 131 = .ok (.getfield 85, 3) := by decide +kernel
theorem dX9_through_134 : decode cX9_through 134 = .ok (.iload 5, 2) := by decide +kernel
theorem dX9_through_136 : decode cX9_through 136 = .ok (.invokevirtual 261, 3) := by decide +kernel
theorem dX9_through_139 : decode cX9_through 139 = .ok (.ireturn, 1) := by decide +kernel
theorem dX9_shift_0 : decode cX9_shift 0 = .ok (.aload_n 0, 1) := by decide +kernel
theorem dX9_shift_1 : decode cX9_shift 1 = .ok (.getfield 19, 3) := by decide +kernel
theorem dX9_shift_4 : decode cX9_shift 4 = .ok (.iload_n 1, 1) := by decide +kernel
theorem dX9_shift_5 : decode cX9_shift 5 = .ok (.invokevirtual 138, 3) := by decide +kernel
theorem dX9_shift_8 : decode cX9_shift 8 = .ok (.ifCond .eq 19, 3) := by decide +kernel
theorem dX9_shift_11 : decode cX9_shift 11 = .ok (.aload_n 0, 1) := by decide +kernel
theorem dX9_shift_12 : decode cX9_shift 12 = .ok (.getfield 19, 3) := by decide +kernel
theorem dX9_shift_15 : decode cX9_shift 15 = .ok (.iload_n 2, 1) := by decide +kernel
theorem dX9_shift_16 : decode cX9_shift 16 = .ok (.invokevirtual 138, 3) := by decide +kernel
theorem dX9_shift_19 : decode cX9_shift 19 = .ok (.ifCond .eq 8, 3) := by decide +kernel
theorem dX9_shift_22 : decode cX9_shift 22 = .ok (.iload_n 3, 1) := by decide +kernel
theorem dX9_shift_23 : decode cX9_shift 23 = .ok (.iconst (-1), 1) := by decide +kernel
theorem dX9_shift_24 : decode cX9_shift 24 = .ok (.if_icmp .ge 6, 3) := by decide +kernel
theorem dX9_shift_27 : decode cX9_shift 27 = .ok (.ldc 88, 2) := by decide +kernel
theorem dX9_shift_29 : decode cX9_shift 29 = .ok (.ireturn, 1) := by decide +kernel
theorem dX9_shift_30 : decode cX9_shift 30 = .ok (.iload 4, 2) := by decide +kernel
theorem dX9_shift_32 : decode cX9_shift 32 = .ok (.ifCond .lt 19, 3) := by decide +kernel
theorem dX9_shift_35 : decode cX9_shift 35 = .ok (.iload 4, 2) := by decide +kernel
theorem dX9_shift_37 : decode cX9_shift 37 = .ok (.iconst 2, 1) := by decide +kernel
theorem dX9_shift_38 : decode cX9_shift 38 = .ok (.if_icmp .gt 13, 3) := by decide +kernel
theorem dX9_shift_41 : decode cX9_shift 41 = .ok (.iload_n 3, 1) := by decide +kernel
theorem dX9_shift_42 : decode cX9_shift 42 = .ok (.iconst (-1), 1) := by decide +kernel
theorem dX9_shift_43 : decode cX9_shift 43 = .ok (.if_icmp .ne 11, 3) := by decide +kernel
theorem dX9_shift_46 : decode cX9_shift 46 = .ok (.iload 4, 2) := by decide +kernel
theorem dX9_shift_48 : decode cX9_shift 48 = .ok (.ifCond .eq 6, 3) := by decide +kernel
theorem dX9_shift_51 : decode cX9_shift 51 = .ok (.ldc 88, 2) := by decide +kernel
theorem dX9_shift_53 : decode cX9_shift 53 = .ok (.ireturn, 1) := by decide +kernel
theorem dX9_shift_54 : decode cX9_shift 54 = .ok (.aload_n 0, 1) := by decide +kernel
theorem dX9_shift_55 : decode cX9_shift 55 = .ok (.getfield 51, 3) := by decide +kernel
theorem dX9_shift_58 : decode cX9_shift 58 = .ok (.aload_n 0, 1) := by decide +kernel
theorem dX9_shift_59 : decode cX9_shift 59 = .ok (.getfield 19, 3) := by decide +kernel
theorem dX9_shift_62 : decode cX9_shift 62 = .ok (.iload_n 1, 1) := by decide +kernel
theorem dX9_shift_63 : decode cX9_shift 63 = .ok (.invokevirtual 207, 3) := by decide +kernel
theorem dX9_shift_66 : decode cX9_shift 66 = .ok (.aload_n 0, 1) := by decide +kernel
theorem dX9_shift_67 : decode cX9_shift 67 = .ok (.getfield 55, 3) := by decide +kernel
theorem dX9_shift_70 : decode cX9_shift 70 = .ok (.aload_n 0, 1) := by decide +kernel
theorem dX9_shift_71 : decode cX9_shift 71 = .ok (.getfield 19, 3) := by decide +kernel
theorem dX9_shift_74 : decode cX9_shift 74 = .ok (.iload_n 2, 1) := by decide +kernel
theorem dX9_shift_75 : decode cX9_shift 75 = .ok (.invokevirtual 207, 3) := by decide +kernel
theorem dX9_shift_78 : decode cX9_shift 78 = .ok (.aload_n 0, 1) := by decide +kernel
theorem dX9_shift_79 : decode cX9_shift 79 = .ok (.getfield 64, 3) := by decide +kernel
theorem dX9_shift_82 : decode cX9_shift 82 = .ok (.aload_n 0, 1) := by decide +kernel
theorem dX9_shift_83 : decode cX9_shift 83 = .ok (.getfield 51, 3) := by decide +kernel
theorem dX9_shift_86 : decode cX9_shift 86 = .ok (.aload_n 0, 1) := by decide +kernel
theorem dX9_shift_87 : decode cX9_shift 87 = .ok (.getfield 55, 3) := by decide +kernel
theorem dX9_shift_90 : decode cX9_shift 90 = .ok (.invokevirtual 266, 3) := by decide +kernel
theorem dX9_shift_93 : decode cX9_shift 93 = .ok (.aload_n 0, 1) := by decide +kernel
theorem dX9_shift_94 : decode cX9_shift 94 = .ok (.getfield 64, 3) := by decide +kernel
theorem dX9_shift_97 : decode cX9_shift 97 = .ok (.invokevirtual 270, 3) := by decide +kernel
theorem dX9_shift_100 : decode cX9_shift 100 = .ok (.iconst 0, 1) := by decide +kernel
theorem dX9_shift_101 : decode cX9_shift 101 = .ok (.istore 5, 2) := by decide +kernel
theorem dX9_shift_103 : decode cX9_shift 103 = .ok (.iconst 1, 1) := by decide +kernel
theorem dX9_shift_104 : decode cX9_shift 104 = .ok (.istore 6, 2) := by decide +kernel
theorem dX9_shift_106 : decode cX9_shift 106 = .ok (.iload 6, 2) := by decide +kernel
theorem dX9_shift_108 : decode cX9_shift 108 = .ok (.sipush 999, 3) := by decide +kernel
theorem dX9_shift_111 : decode cX9_shift 111 = .ok (.if_icmp .gt 38, 3) := by decide +kernel
theorem dX9_shift_114 : decode cX9_shift 114 = .ok (.aload_n 0, 1) := by decide +kernel
theorem dX9_shift_115 : decode cX9_shift 115 = .ok (.getfield 64, 3) := by decide +kernel
theorem dX9_shift_118 : decode cX9_shift 118 = .ok (.invokevirtual 273, 3) := by decide +kernel
theorem dX9_shift_121 : decode cX9_shift 121 = .ok (.ifCond .eq 28, 3) := by decide +kernel
theorem dX9_shift_124 : decode cX9_shift 124 = .ok (.iload 5, 2) := by decide +kernel
theorem dX9_shift_126 : decode cX9_shift 126 = .ok (.iload_n 3, 1) := by decide +kernel
theorem dX9_shift_127 : decode cX9_shift 127 = .ok (.if_icmp .ne 13, 3) := by decide +kernel
theorem dX9_shift_130 : decode cX9_shift 130 = .ok (.aload_n 0, 1) := by decide +kernel
theorem dX9_shift_131 : decode cX9_shift 131 = .ok (.getfield 64, 3) := by decide +kernel
theorem dX9_shift_134 : decode cX9_shift 134 = .ok (.iload 4, 2) := by decide +kernel
theorem dX9_shift_136 : decode cX9_shift 136 = .ok (.invokevirtual 276, 3) := by decide +kernel
theorem dX9_shift_139 : decode cX9_shift 139 = .ok (.ireturn, 1) := by decide +kernel
theorem dX9_shift_140 : decode cX9_shift 140 = .ok (.iinc 5 1, 3) := by decide +kernel
theorem dX9_shift_143 : decode cX9_shift 143 = .ok (.iinc 6 1, 3) := by decide +kernel
theorem dX9_shift_146 : decode cX9_shift 146 = .ok (.goto (-40), 3) := by decide +kernel
theorem dX9_shift_149 : decode cX9_shift 149 = .ok (.iload_n 3, 1) := by decide +kernel
theorem dX9_shift_150 : decode cX9_shift 150 = .ok (.iconst (-1), 1) := by decide +kernel
theorem dX9_shift_151 : decode cX9_shift 151 = .ok (.if_icmp .ne 8, 3) := by decide +kernel
theorem dX9_shift_154 : decode cX9_shift 154 = .ok (.iload 5, 2) := by decide +kernel
theorem dX9_shift_156 : decode cX9_shift 156 = .ok (.goto 5, 3) := by decide +kernel
theorem dX9_shift_159 : decode cX9_shift 159 = .ok (.ldc 206, 2) := by decide +kernel
theorem dX9_shift_161 : decode cX9_shift 161 = .ok (.ireturn, 1) := by decide +kernel
theorem dX9_table_0 : decode cX9_table 0 = .ok (.aload_n 0, 1) := by decide +kernel
theorem dX9_table_1 : decode cX9_table 1 = .ok (.getfield 19, 3) := by decide +kernel
theorem dX9_table_4 : decode cX9_table 4 = .ok (.iload_n 1, 1) := by decide +kernel
theorem dX9_table_5 : decode cX9_table 5 = .ok (.invokevirtual 138, 3) := by decide +kernel
theorem dX9_table_8 : decode cX9_table 8 = .ok (.ifCond .eq 23, 3) := by decide +kernel
theorem dX9_table_11 : decode cX9_table 11 = .ok (.aload_n 0, 1) := by decide +kernel
theorem dX9_table_12 : decode cX9_table 12 = .ok (.getfield 19, 3) := by decide +kernel
theorem dX9_table_15 : decode cX9_table 15 = .ok (.iload_n 2, 1) := by decide +kernel
theorem dX9_table_16 : decode cX9_table 16 = .ok (.invokevirtual 138, 3) := by decide +kernel
theorem dX9_table_19 : decode cX9_table 19 = .ok (.ifCond .eq 12, 3) := by decide +kernel
theorem dX9_table_22 : decode cX9_table 22 = .ok (.iload_n 3, 1) := by decide +kernel
theorem dX9_table_23 : decode cX9_table 23 = .ok (.ifCond .lt 8, 3) := by decide +kernel
theorem dX9_table_26 : decode cX9_table 26 = .ok (.iload_n 3, 1) := by decide +kernel
theorem dX9_table_27 : decode cX9_table 27 = .ok (.iconst 3, 1) := by decide +kernel
theorem dX9_table_28 : decode cX9_table 28 = .ok (.if_icmp .le 6, 3) := by decide +kernel
theorem dX9_table_31 : decode cX9_table 31 = .ok (.ldc 88, 2) := by decide +kernel
theorem dX9_table_33 : decode cX9_table 33 = .ok (.ireturn, 1) := by decide +kernel
theorem dX9_table_34 : decode cX9_table 34 = .ok (.aload_n 0, 1) := by decide +kernel
theorem dX9_table_35 : decode cX9_table 35 = .ok (.getfield 51, 3) := by decide +kernel
theorem dX9_table_38 : decode cX9_table 38 = .ok (.aload_n 0, 1) := by decide +kernel
theorem dX9_table_39 : decode cX9_table 39 = .ok (.getfield 19, 3) := by decide +kernel
theorem dX9_table_42 : decode cX9_table 42 = .ok (.iload_n 1, 1) := by decide +kernel
theorem dX9_table_43 : decode cX9_table 43 = .ok (.invokevirtual 207, 3) := by decide +kernel
theorem dX9_table_46 : decode cX9_table 46 = .ok (.aload_n 0, 1) := by decide +kernel
theorem dX9_table_47 : decode cX9_table 47 = .ok (.getfield 55, 3) := by decide +kernel
theorem dX9_table_50 : decode cX9_table 50 = .ok (.aload_n 0, 1) := by decide +kernel
theorem dX9_table_51 : decode cX9_table 51 = .ok (.getfield 19, 3) := by decide +kernel
theorem dX9_table_54 : decode cX9_table 54 = .ok (.iload_n 2, 1) := by decide +kernel
theorem dX9_table_55 : decode cX9_table 55 = .ok (.invokevirtual 207, 3) := by decide +kernel
theorem dX9_table_58 : decode cX9_table 58 = .ok (.aload_n 0, 1) := by decide +kernel
theorem dX9_table_59 : decode cX9_table 59 = .ok (.getfield 64, 3) := by decide +kernel
theorem dX9_table_62 : decode cX9_table 62 = .ok (.aload_n 0, 1) := by decide +kernel
theorem dX9_table_63 : decode cX9_table 63 = .ok (.getfield 51, 3) := by decide +kernel
theorem dX9_table_66 : decode cX9_table 66 = .ok (.invokevirtual 214, 3) := by decide +kernel
theorem dX9_table_69 : decode cX9_table 69 = .ok (.aload_n 0, 1) := by decide +kernel
theorem dX9_table_70 : decode cX9_table 70 = .ok (.getfield 64, 3) := by decide +kernel
theorem dX9_table_73 : decode cX9_table 73 = .ok (.invokevirtual 279, 3) := by decide +kernel
theorem dX9_table_76 : decode cX9_table 76 = .ok (.istore 4, 2) := by decide +kernel
theorem dX9_table_78 : decode cX9_table 78 = .ok (.aload_n 0, 1) := by decide +kernel
theorem dX9_table_79 : decode cX9_table 79 = .ok (.getfield 64, 3) := by decide +kernel
theorem dX9_table_82 : decode cX9_table 82 = .ok (.aload_n 0, 1) := by decide +kernel
theorem dX9_table_83 : decode cX9_table 83 = .ok (.getfield 51, 3) := by decide +kernel
theorem dX9_table_86 : decode cX9_table 86 = .ok (.aload_n 0, 1) := by decide +kernel
theorem dX9_table_87 : decode cX9_table 87 = .ok (.getfield 55, 3) := by decide +kernel
theorem dX9_table_90 : decode cX9_table 90 = .ok (.invokevirtual 266, 3) := by decide +kernel
theorem dX9_table_93 : decode cX9_table 93 = .ok (.iload_n 3, 1) := by decide +kernel
theorem dX9_table_94 : decode cX9_table 94 = .ok (.ifCond .ne 14, 3) := by decide +kernel
theorem dX9_table_97 : decode cX9_table 97 = .ok (.iload 4, 2) := by decide +kernel
theorem dX9_table_99 : decode cX9_table 99 = .ok (.aload_n 0, 1) := by decide +kernel
theorem dX9_table_100 : decode cX9_table 100 = .ok (.getfield 64, 3) := by decide +kernel
theorem dX9_table_103 : decode cX9_table 103 = .ok (.invokevirtual 279, 3) := by decide +kernel
theorem dX9_table_106 : decode cX9_table 106 = .ok (.isub, 1) := by decide +kernel
theorem dX9_table_107 : decode cX9_table 107 = .ok (.ireturn, 1) := by decide +kernel
theorem dX9_table_108 : decode cX9_table 108 = .ok (.iload_n 3, 1) := by decide +kernel
theorem dX9_table_109 : decode cX9_table 109 = .ok (.iconst 3, 1) := by decide +kernel
theorem dX9_table_110 : decode cX9_table 110 = .ok (.if_icmp .ge 12, 3) := by decide +kernel
theorem dX9_table_113 : decode cX9_table 113 = .ok (.aload_n 0, 1) := by decide +kernel
theorem dX9_table_114 : decode cX9_table 114 = .ok (.getfield 64, 3) := by decide +kernel
theorem dX9_table_117 : decode cX9_table 117 = .ok (.iload_n 3, 1) := by decide +kernel
theorem dX9_table_118 : decode cX9_table 118 = .ok (.invokevirtual 282, 3) := by decide +kernel
theorem dX9_table_121 : decode cX9_table 121 = .ok (.ireturn, 1) := by decide +kernel
theorem dX9_table_122 : decode cX9_table 122 = .ok (.aload_n 0, 1) := by decide +kernel
theorem dX9_table_123 : decode cX9_table 123 = .ok (.getfield 68, 3) := by decide +kernel
theorem dX9_table_126 : decode cX9_table 126 = .ok (.aload_n 0, 1) := by decide +kernel
theorem dX9_table_127 : decode cX9_table 127 = .ok (.getfield 55, 3) := by decide +kernel
theorem dX9_table_130 : decode cX9_table 130 = .ok (.aload_n 0, 1) := by decide +kernel
theorem dX9_table_131 : decode cX9_table 131 = .ok (.getfield 51, 3) := by decide +kernel
theorem dX9_table_134 : decode cX9_table 134 = .ok (.invokevirtual 266, 3) := by decide +kernel
theorem dX9_table_137 : decode cX9_table 137 = .ok (.aload_n 0, 1) := by decide +kernel
theorem dX9_table_138 : decode cX9_table 138 = .ok (.getfield 64, 3) := by decide +kernel
theorem dX9_table_141 : decode cX9_table 141 = .ok (.aload_n 0, 1) := by decide +kernel
theorem dX9_table_142 : decode cX9_table 142 = .ok (.getfield 51, 3) := by decide +kernel
theorem dX9_table_145 : decode cX9_table 145 = .ok (.aload_n 0, 1) := by decide +kernel
theorem dX9_table_146 : decode cX9_table 146 = .ok (.getfield 55, 3) := by decide +kernel
theorem dX9_table_149 : decode cX9_table 149 = .ok (.aload_n 0, 1) := by decide +kernel
theorem dX9_table_150 : decode cX9_table 150 = .ok (.getfield 68, 3) := by decide +kernel
theorem dX9_table_153 : decode cX9_table 153 = .ok (.invokevirtual 285, 3) := by decide +kernel
theorem dX9_table_156 : decode cX9_table 156 = .ok (.aload_n 0, 1) := by decide +kernel
theorem dX9_table_157 : decode cX9_table 157 = .ok (.getfield 64, 3) := by decide +kernel
theorem dX9_table_160 : decode cX9_table 160 = .ok (.iconst 1, 1) := by decide +kernel
theorem dX9_table_161 : decode cX9_table 161 = .ok (.invokevirtual 282, 3) := by decide +kernel
theorem dX9_table_164 : decode cX9_table 164 = .ok (.ireturn, 1) := by decide +kernel
theorem dX9_share_0 : decode cX9_share 0 = .ok (.aload_n 0, 1) := by decide +kernel
theorem dX9_share_1 : decode cX9_share 1 = .ok (.getfield 19, 3) := by decide +kernel
theorem dX9_share_4 : decode cX9_share 4 = .ok (.iload_n 1, 1) := by decide +kernel
theorem dX9_share_5 : decode cX9_share 5 = .ok (.invokevirtual 138, 3) := by decide +kernel
theorem dX9_share_8 : decode cX9_share 8 = .ok (.ifCond .eq 14, 3) := by decide +kernel
theorem dX9_share_11 : decode cX9_share 11 = .ok (.aload_n 0, 1) := by decide +kernel
theorem dX9_share_12 : decode cX9_share 12 = .ok (.getfield 19, 3) := by decide +kernel
theorem dX9_share_15 : decode cX9_share 15 = .ok (.iload_n 2, 1) := by decide +kernel
theorem dX9_share_16 : decode cX9_share 16 = .ok (.invokevirtual 138, 3) := by decide +kernel
theorem dX9_share_19 : decode cX9_share 19 = .ok (.ifCond .ne 6, 3) := by decide +kernel
theorem dX9_share_22 : decode cX9_share 22 = .ok (.ldc 88, 2) := by decide +kernel
theorem dX9_share_24 : decode cX9_share 24 = .ok (.ireturn, 1) := by decide +kernel
theorem dX9_share_25 : decode cX9_share 25 = .ok (.aload_n 0, 1) := by decide +kernel
theorem dX9_share_26 : decode cX9_share 26 = .ok (.getfield 51, 3) := by decide +kernel
theorem dX9_share_29 : decode cX9_share 29 = .ok (.aload_n 0, 1) := by decide +kernel
theorem dX9_share_30 : decode cX9_share 30 = .ok (.getfield 19, 3) := by decide +kernel
theorem dX9_share_33 : decode cX9_share 33 = .ok (.iload_n 1, 1) := by decide +kernel
theorem dX9_share_34 : decode cX9_share 34 = .ok (.invokevirtual 207, 3) := by decide +kernel
theorem dX9_share_37 : decode cX9_share 37 = .ok (.aload_n 0, 1) := by decide +kernel
theorem dX9_share_38 : decode cX9_share 38 = .ok (.getfield 55, 3) := by decide +kernel
theorem dX9_share_41 : decode cX9_share 41 = .ok (.aload_n 0, 1) := by decide +kernel
theorem dX9_share_42 : decode cX9_share 42 = .ok (.getfield 19, 3) := by decide +kernel
theorem dX9_share_45 : decode cX9_share 45 = .ok (.iload_n 2, 1) := by decide +kernel
theorem dX9_share_46 : decode cX9_share 46 = .ok (.invokevirtual 207, 3) := by decide +kernel
theorem dX9_share_49 : decode cX9_share 49 = .ok (.iconst 0, 1) := by decide +kernel
theorem dX9_share_50 : decode cX9_share 50 = .ok (.istore_n 3, 1) := by decide +kernel
theorem dX9_share_51 : decode cX9_share 51 = .ok (.iconst 0, 1) := by decide +kernel
theorem dX9_share_52 : decode cX9_share 52 = .ok (.istore 4, 2) := by decide +kernel
theorem dX9_share_54 : decode cX9_share 54 = .ok (.iconst 0, 1) := by decide +kernel
theorem dX9_share_55 : decode cX9_share 55 = .ok (.istore 5, 2) := by decide +kernel
theorem dX9_share_57 : decode cX9_share 57 = .ok (.iload 5, 2) := by decide +kernel
theorem dX9_share_59 : decode cX9_share 59 = .ok (.aload_n 0, 1) := by decide +kernel
theorem dX9_share_60 : decode cX9_share 60 = .ok (.getfield 19, 3) := by decide +kernel
theorem dX9_share_63 : decode cX9_share 63 = .ok (.invokevirtual 248, 3) := by decide +kernel
theorem dX9_share_66 : decode cX9_share 66 = .ok (.if_icmp .ge 63, 3) := by decide +kernel
theorem dX9_share_69 : decode cX9_share 69 = .ok (.aload_n 0, 1) := by decide +kernel
theorem dX9_share_70 : decode cX9_share 70 = .ok (.getfield 51, 3) := by decide +kernel
theorem dX9_share_73 : decode cX9_share 73 = .ok (.iload 5, 2) := by decide +kernel
theorem dX9_share_75 : decode cX9_share 75 = .ok (.invokevirtual 231, 3) := by decide +kernel
theorem dX9_share_78 : decode cX9_share 78 = .ok (.ifCond .eq 18, 3) := by decide +kernel
theorem dX9_share_81 : decode cX9_share 81 = .ok (.aload_n 0, 1) := by decide +kernel
theorem dX9_share_82 : decode cX9_share 82 = .ok (.getfield 55, 3) := by decide +kernel
theorem dX9_share_85 : decode cX9_share 85 = .ok (.iload 5, 2) := by decide +kernel
theorem dX9_share_87 : decode cX9_share 87 = .ok (.invokevirtual 231, 3) := by decide +kernel
theorem dX9_share_90 : decode cX9_share 90 = .ok (.ifCond .eq 6, 3) := by decide +kernel
theorem dX9_share_93 : decode cX9_share 93 = .ok (.iinc 3 1, 3) := by decide +kernel
theorem dX9_share_96 : decode cX9_share 96 = .ok (.aload_n 0, 1) := by decide +kernel
theorem dX9_share_97 : decode cX9_share 97 = .ok (.getfield 51, 3) := by decide +kernel
theorem dX9_share_100 : decode cX9_share 100 = .ok (.iload 5, 2) := by decide +kernel
theorem dX9_share_102 : decode cX9_share 102 = .ok (.invokevirtual 231, 3) := by decide +kernel
theorem dX9_share_105 : decode cX9_share 105 = .ok (.ifCond .ne 15, 3) := by decide +kernel
theorem dX9_share_108 : decode cX9_share 108 = .ok (.aload_n 0, 1) := by decide +kernel
theorem dX9_share_109 : decode cX9_share 109 = .ok (.getfield 55, 3) := by decide +kernel
theorem dX9_share_112 : decode cX9_share 112 = .ok (.iload 5, 2) := by decide +kernel
theorem dX9_share_114 : decode cX9_share 114 = .ok (.invokevirtual 231, 3) := by decide +kernel
theorem dX9_share_117 : decode cX9_share 117 = .ok (.ifCond .eq 6, 3) := by decide +kernel
theorem dX9_share_120 : decode cX9_share 120 = .ok (.iinc 4 1, 3) := by decide +kernel
theorem dX9_share_123 : decode cX9_share 123 = .ok (.iinc 5 1, 3) := by decide +kernel
theorem dX9_share_126 : decode cX9_share 126 = .ok (.goto (-69), 3) := by decide +kernel
theorem dX9_share_129 : decode cX9_share 129 = .ok (.iload_n 3, 1) := by decide +kernel
theorem dX9_share_130 : decode cX9_share 130 = .ok (.iload 4, 2) := by decide +kernel
theorem dX9_share_132 : decode cX9_share 132 = .ok (.invokestatic 289, 3) := by decide +kernel
theorem dX9_share_135 : decode cX9_share 135 = .ok (.ireturn, 1) := by decide +kernel
theorem dX9_score_0 : decode cX9_score 0 = .ok (.aload_n 0, 1) := by decide +kernel
theorem dX9_score_1 : decode cX9_score 1 = .ok (.getfield 19, 3) := by decide +kernel
theorem dX9_score_4 : decode cX9_score 4 = .ok (.iload_n 1, 1) := by decide +kernel
theorem dX9_score_5 : decode cX9_score 5 = .ok (.invokevirtual 138, 3) := by decide +kernel
theorem dX9_score_8 : decode cX9_score 8 = .ok (.ifCond .eq 12, 3) := by decide +kernel
theorem dX9_score_11 : decode cX9_score 11 = .ok (.iload_n 2, 1) := by decide +kernel
theorem dX9_score_12 : decode cX9_score 12 = .ok (.ifCond .lt 8, 3) := by decide +kernel
theorem dX9_score_15 : decode cX9_score 15 = .ok (.iload_n 2, 1) := by decide +kernel
theorem dX9_score_16 : decode cX9_score 16 = .ok (.iconst 1, 1) := by decide +kernel
theorem dX9_score_17 : decode cX9_score 17 = .ok (.if_icmp .le 6, 3) := by decide +kernel
theorem dX9_score_20 : decode cX9_score 20 = .ok (.ldc 88, 2) := by decide +kernel
theorem dX9_score_22 : decode cX9_score 22 = .ok (.ireturn, 1) := by decide +kernel
theorem dX9_score_23 : decode cX9_score 23 = .ok (.aload_n 0, 1) := by decide +kernel
theorem dX9_score_24 : decode cX9_score 24 = .ok (.iload_n 1, 1) := by decide +kernel
theorem dX9_score_25 : decode cX9_score 25 = .ok (.invokevirtual 328, 3) := by decide +kernel
theorem dX9_score_28 : decode cX9_score 28 = .ok (.istore_n 3, 1) := by decide +kernel
theorem dX9_score_29 : decode cX9_score 29 = .ok (.iload_n 2, 1) := by decide +kernel
theorem dX9_score_30 : decode cX9_score 30 = .ok (.ifCond .ne 7, 3) := by decide +kernel
theorem dX9_score_33 : decode cX9_score 33 = .ok (.iload_n 3, 1) := by decide +kernel
theorem dX9_score_34 : decode cX9_score 34 = .ok (.goto 14, 3) := by decide +kernel
theorem dX9_score_37 : decode cX9_score 37 = .ok (.iload_n 3, 1) := by decide +kernel
theorem dX9_score_38 : decode cX9_score 38 = .ok (.aload_n 0, 1) := by decide +kernel
theorem dX9_score_39 : decode cX9_score 39 = .ok (.getfield 19, 3) := by decide +kernel
theorem dX9_score_42 : decode cX9_score 42 = .ok (.invokevirtual 194, 3) := by decide +kernel
theorem dX9_score_45 : decode cX9_score 45 = .ok (.invokestatic 289, 3) := by decide +kernel
theorem dX9_score_48 : decode cX9_score 48 = .ok (.ireturn, 1) := by decide +kernel
theorem dX9_strike_0 : decode cX9_strike 0 = .ok (.aload_n 0, 1) := by decide +kernel
theorem dX9_strike_1 : decode cX9_strike 1 = .ok (.getfield 19, 3) := by decide +kernel
theorem dX9_strike_4 : decode cX9_strike 4 = .ok (.iload_n 1, 1) := by decide +kernel
theorem dX9_strike_5 : decode cX9_strike 5 = .ok (.invokevirtual 182, 3) := by decide +kernel
theorem dX9_strike_8 : decode cX9_strike 8 = .ok (.ifCond .ne 6, 3) := by decide +kernel
theorem dX9_strike_11 : decode cX9_strike 11 = .ok (.ldc 88, 2) := by decide +kernel
theorem dX9_strike_13 : decode cX9_strike 13 = .ok (.ireturn, 1) := by decide +kernel
theorem dX9_strike_14 : decode cX9_strike 14 = .ok (.aload_n 0, 1) := by decide +kernel
theorem dX9_strike_15 : decode cX9_strike 15 = .ok (.getfield 38, 3) := by decide +kernel
theorem dX9_strike_18 : decode cX9_strike 18 = .ok (.aload_n 0, 1) := by decide +kernel
theorem dX9_strike_19 : decode cX9_strike 19 = .ok (.getfield 19, 3) := by decide +kernel
theorem dX9_strike_22 : decode cX9_strike 22 = .ok (.invokevirtual 149, 3) := by decide +kernel
theorem dX9_strike_25 : decode cX9_strike 25 = .ok (.aload_n 0, 1) := by decide +kernel
theorem dX9_strike_26 : decode cX9_strike 26 = .ok (.getfield 19, 3) := by decide +kernel
theorem dX9_strike_29 : decode cX9_strike 29 = .ok (.iload_n 1, 1) := by decide +kernel
theorem dX9_strike_30 : decode cX9_strike 30 = .ok (.invokevirtual 185, 3) := by decide +kernel
theorem dX9_strike_33 : decode cX9_strike 33 = .ok (.aload_n 0, 1) := by decide +kernel
theorem dX9_strike_34 : decode cX9_strike 34 = .ok (.getfield 19, 3) := by decide +kernel
theorem dX9_strike_37 : decode cX9_strike 37 = .ok (.invokevirtual 188, 3) := by decide +kernel
theorem dX9_strike_40 : decode cX9_strike 40 = .ok (.ireturn, 1) := by decide +kernel
theorem dX9_citation_0 : decode cX9_citation 0 = .ok (.aload_n 0, 1) := by decide +kernel
theorem dX9_citation_1 : decode cX9_citation 1 = .ok (.getfield 19, 3) := by decide +kernel
theorem dX9_citation_4 : decode cX9_citation 4 = .ok (.iload_n 1, 1) := by decide +kernel
theorem dX9_citation_5 : decode cX9_citation 5 = .ok (.invokevirtual 182, 3) := by decide +kernel
theorem dX9_citation_8 : decode cX9_citation 8 = .ok (.ifCond .eq 13, 3) := by decide +kernel
theorem dX9_citation_11 : decode cX9_citation 11 = .ok (.iload_n 2, 1) := by decide +kernel
theorem dX9_citation_12 : decode cX9_citation 12 = .ok (.ifCond .lt 9, 3) := by decide +kernel
theorem dX9_citation_15 : decode cX9_citation 15 = .ok (.iload_n 2, 1) := by decide +kernel
theorem dX9_citation_16 : decode cX9_citation 16 = .ok (.bipush 7, 2) := by decide +kernel
theorem dX9_citation_18 : decode cX9_citation 18 = .ok (.if_icmp .le 6, 3) := by decide +kernel
theorem dX9_citation_21 : decode cX9_citation 21 = .ok (.ldc 88, 2) := by decide +kernel
theorem dX9_citation_23 : decode cX9_citation 23 = .ok (.ireturn, 1) := by decide +kernel
theorem dX9_citation_24 : decode cX9_citation 24 = .ok (.iload_n 2, 1) := by decide +kernel
theorem dX9_citation_25 : decode cX9_citation 25 = .ok (.iconst 4, 1) := by decide +kernel
theorem dX9_citation_26 : decode cX9_citation 26 = .ok (.if_icmp .ge 13, 3) := by decide +kernel
theorem dX9_citation_29 : decode cX9_citation 29 = .ok (.aload_n 0, 1) := by decide +kernel
theorem dX9_citation_30 : decode cX9_citation 30 = .ok (.getfield 19, 3) := by decide +kernel
theorem dX9_citation_33 : decode cX9_citation 33 = .ok (.iload_n 1, 1) := by decide +kernel
theorem dX9_citation_34 : decode cX9_citation 34 = .ok (.iload_n 2, 1) := by decide +kernel
theorem dX9_citation_35 : decode cX9_citation 35 = .ok (.invokevirtual 292, 3) := by decide +kernel
theorem dX9_citation_38 : decode cX9_citation 38 = .ok (.ireturn, 1) := by decide +kernel
theorem dX9_citation_39 : decode cX9_citation 39 = .ok (.aload_n 0, 1) := by decide +kernel
theorem dX9_citation_40 : decode cX9_citation 40 = .ok (.iload_n 1, 1) := by decide +kernel
theorem dX9_citation_41 : decode cX9_citation 41 = .ok (.invokevirtual 178, 3) := by decide +kernel
theorem dX9_citation_44 : decode cX9_citation 44 = .ok (.iload_n 2, 1) := by decide +kernel
theorem dX9_citation_45 : decode cX9_citation 45 = .ok (.bipush 7, 2) := by decide +kernel
theorem dX9_citation_47 : decode cX9_citation 47 = .ok (.if_icmp .ne 19, 3) := by decide +kernel
theorem dX9_citation_50 : decode cX9_citation 50 = .ok (.aload_n 0, 1) := by decide +kernel
theorem dX9_citation_51 : decode cX9_citation 51 = .ok (.getfield 74, 3) := by decide +kernel
theorem dX9_citation_54 : decode cX9_citation 54 = .ok (.invokevirtual 295, 3) := by decide +kernel
theorem dX9_citation_57 : decode cX9_citation 57 = .ok (.ifCond .eq 7, 3) := by decide +kernel
theorem dX9_citation_60 : decode cX9_citation 60 = .ok (.iconst 1, 1) := by decide +kernel
theorem dX9_citation_61 : decode cX9_citation 61 = .ok (.goto 4, 3) := by decide +kernel
theorem dX9_citation_64 : decode cX9_citation 64 = .ok (.iconst 0, 1) := by decide +kernel
theorem dX9_citation_65 : decode cX9_citation 65 = .ok (.ireturn, 1) := by decide +kernel
theorem dX9_citation_66 : decode cX9_citation 66 = .ok (.aload_n 0, 1) := by decide +kernel
theorem dX9_citation_67 : decode cX9_citation 67 = .ok (.getfield 74, 3) := by decide +kernel
theorem dX9_citation_70 : decode cX9_citation 70 = .ok (.iload_n 2, 1) := by decide +kernel
theorem dX9_citation_71 : decode cX9_citation 71 = .ok (.iconst 4, 1) := by decide +kernel
theorem dX9_citation_72 : decode cX9_citation 72 = .ok (.isub, 1) := by decide +kernel
theorem dX9_citation_73 : decode cX9_citation 73 = .ok (.invokevirtual 228, 3) := by decide +kernel
theorem dX9_citation_76 : decode cX9_citation 76 = .ok (.ireturn, 1) := by decide +kernel
theorem dX9_turned_0 : decode cX9_turned 0 = .ok (.aload_n 0, 1) := by decide +kernel
theorem dX9_turned_1 : decode cX9_turned 1 = .ok (.getfield 19, 3) := by decide +kernel
theorem dX9_turned_4 : decode cX9_turned 4 = .ok (.iload_n 1, 1) := by decide +kernel
theorem dX9_turned_5 : decode cX9_turned 5 = .ok (.invokevirtual 182, 3) := by decide +kernel
theorem dX9_turned_8 : decode cX9_turned 8 = .ok (.ifCond .eq 14, 3) := by decide +kernel
theorem dX9_turned_11 : decode cX9_turned 11 = .ok (.aload_n 0, 1) := by decide +kernel
theorem dX9_turned_12 : decode cX9_turned 12 = .ok (.getfield 19, 3) := by decide +kernel
theorem dX9_turned_15 : decode cX9_turned 15 = .ok (.iload_n 2, 1) := by decide +kernel
theorem dX9_turned_16 : decode cX9_turned 16 = .ok (.invokevirtual 138, 3) := by decide +kernel
theorem dX9_turned_19 : decode cX9_turned 19 = .ok (.ifCond .ne 6, 3) := by decide +kernel
theorem dX9_turned_22 : decode cX9_turned 22 = .ok (.ldc 88, 2) := by decide +kernel
theorem dX9_turned_24 : decode cX9_turned 24 = .ok (.ireturn, 1) := by decide +kernel
theorem dX9_turned_25 : decode cX9_turned 25 = .ok (.iload_n 3, 1) := by decide +kernel
theorem dX9_turned_26 : decode cX9_turned 26 = .ok (.ifCond .lt 8, 3) := by decide +kernel
theorem dX9_turned_29 : decode cX9_turned 29 = .ok (.iload_n 3, 1) := by decide +kernel
theorem dX9_turned_30 : decode cX9_turned 30 = .ok (.iconst 2, 1) := by decide +kernel
theorem dX9_turned_31 : decode cX9_turned 31 = .ok (.if_icmp .le 6, 3) := by decide +kernel
theorem dX9_turned_34 : decode cX9_turned 34 = .ok (.ldc 88, 2) := by decide +kernel
theorem dX9_turned_36 : decode cX9_turned 36 = .ok (.ireturn, 1) := by decide +kernel
theorem dX9_turned_37 : decode cX9_turned 37 = .ok (.aload_n 0, 1) := by decide +kernel
theorem dX9_turned_38 : decode cX9_turned 38 = .ok (.aload_n 0, 1) := by decide +kernel
theorem dX9_turned_39 : decode cX9_turned 39 = .ok (.getfield 51, 3) := by decide +kernel
theorem dX9_turned_42 : decode cX9_turned 42 = .ok (.iload_n 1, 1) := by decide +kernel
theorem dX9_turned_43 : decode cX9_turned 43 = .ok (.invokevirtual 298, 3) := by decide +kernel
theorem dX9_turned_46 : decode cX9_turned 46 = .ok (.aload_n 0, 1) := by decide +kernel
theorem dX9_turned_47 : decode cX9_turned 47 = .ok (.getfield 55, 3) := by decide +kernel
theorem dX9_turned_50 : decode cX9_turned 50 = .ok (.aload_n 0, 1) := by decide +kernel
theorem dX9_turned_51 : decode cX9_turned 51 = .ok (.getfield 19, 3) := by decide +kernel
theorem dX9_turned_54 : decode cX9_turned 54 = .ok (.iload_n 2, 1) := by decide +kernel
theorem dX9_turned_55 : decode cX9_turned 55 = .ok (.invokevirtual 207, 3) := by decide +kernel
theorem dX9_turned_58 : decode cX9_turned 58 = .ok (.aload_n 0, 1) := by decide +kernel
theorem dX9_turned_59 : decode cX9_turned 59 = .ok (.getfield 19, 3) := by decide +kernel
theorem dX9_turned_62 : decode cX9_turned 62 = .ok (.iload_n 1, 1) := by decide +kernel
theorem dX9_turned_63 : decode cX9_turned 63 = .ok (.iconst 2, 1) := by decide +kernel
theorem dX9_turned_64 : decode cX9_turned 64 = .ok (.invokevirtual 292, 3) := by decide +kernel
theorem dX9_turned_67 : decode cX9_turned 67 = .ok (.istore 4, 2) := by decide +kernel
theorem dX9_turned_69 : decode cX9_turned 69 = .ok (.aload_n 0, 1) := by decide +kernel
theorem dX9_turned_70 : decode cX9_turned 70 = .ok (.getfield 19, 3) := by decide +kernel
theorem dX9_turned_73 : decode cX9_turned 73 = .ok (.iload_n 1, 1) := by decide +kernel
theorem dX9_turned_74 : decode cX9_turned 74 = .ok (.iconst 3, 1) := by decide +kernel
theorem dX9_turned_75 : decode cX9_turned 75 = .ok (.invokevirtual 292, 3) := by decide +kernel
theorem dX9_turned_78 : decode cX9_turned 78 = .ok (.istore 5, 2) := by decide +kernel
theorem dX9_turned_80 : decode cX9_turned 80 = .ok (.aload_n 0, 1) := by decide +kernel
theorem dX9_turned_81 : decode cX9_turned 81 = .ok (.getfield 74, 3) := by decide +kernel
theorem dX9_turned_84 : decode cX9_turned 84 = .ok (.invokevirtual 302, 3) := by decide +kernel
theorem dX9_turned_87 : decode cX9_turned 87 = .ok (.iconst 0, 1) := by decide +kernel
theorem dX9_turned_88 : decode cX9_turned 88 = .ok (.istore 6, 2) := by decide +kernel
theorem dX9_turned_90 : decode cX9_turned 90 = .ok (.iload 6, 2) := by decide +kernel
theorem dX9_turned_92 : decode cX9_turned 92 = .ok (.aload_n 0, 1) := by decide +kernel
theorem dX9_turned_93 : decode cX9_turned 93 = .ok (.getfield 19, 3) := by decide +kernel
theorem dX9_turned_96 : decode cX9_turned 96 = .ok (.invokevirtual 248, 3) := by decide +kernel
theorem dX9_turned_99 : decode cX9_turned 99 = .ok (.if_icmp .ge 72, 3) := by decide +kernel
theorem dX9_turned_102 : decode cX9_turned 102 = .ok (.aload_n 0, 1) := by decide +kernel
theorem dX9_turned_103 : decode cX9_turned 103 = .ok (.getfield 51, 3) := by decide +kernel
theorem dX9_turned_106 : decode cX9_turned 106 = .ok (.iload 6, 2) := by decide +kernel
theorem dX9_turned_108 : decode cX9_turned 108 = .ok (.iload 4, 2) := by decide +kernel
theorem dX9_turned_110 : decode cX9_turned 110 = .ok (.iload 5, 2) := by decide +kernel
theorem dX9_turned_112 : decode cX9_turned 112 = .ok (.invokevirtual 305, 3) := by decide +kernel
theorem dX9_turned_115 : decode cX9_turned 115 = .ok (.ifCond .eq 50, 3) := by decide +kernel
theorem dX9_turned_118 : decode cX9_turned 118 = .ok (.aload_n 0, 1) := by decide +kernel
theorem dX9_turned_119 : decode cX9_turned 119 = .ok (.getfield 55, 3) := by decide +kernel
theorem dX9_turned_122 : decode cX9_turned 122 = .ok (.iload 6, 2) := by decide +kernel
theorem dX9_turned_124 : decode cX9_turned 124 = .ok (.invokevirtual 231, 3) := by decide +kernel
theorem dX9_turned_127 : decode cX9_turned 127 = .ok (.ifCond .ne 6, 3) := by decide +kernel
theorem dX9_turned_130 : decode cX9_turned 130 = .ok (.goto 35, 3) := by decide +kernel
theorem dX9_turned_133 : decode cX9_turned 133 = .ok (.aload_n 0, 1) := by decide +kernel
theorem dX9_turned_134 : decode cX9_turned 134 = .ok (.getfield 74, 3) := by decide +kernel
theorem dX9_turned_137 : decode cX9_turned 137 = .ok (.aload_n 0, 1) := by decide +kernel
theorem dX9_turned_138 : decode cX9_turned 138 = .ok (.getfield 55, 3) := by decide +kernel
theorem dX9_turned_141 : decode cX9_turned 141 = .ok (.iload 6, 2) := by decide +kernel
theorem dX9_turned_143 : decode cX9_turned 143 = .ok (.invokevirtual 234, 3) := by decide +kernel
theorem dX9_turned_146 : decode cX9_turned 146 = .ok (.invokevirtual 309, 3) := by decide +kernel
theorem dX9_turned_149 : decode cX9_turned 149 = .ok (.aload_n 0, 1) := by decide +kernel
theorem dX9_turned_150 : decode cX9_turned 150 = .ok (.getfield 74, 3) := by decide +kernel
theorem dX9_turned_153 : decode cX9_turned 153 = .ok (.aload_n 0, 1) := by decide +kernel
theorem dX9_turned_154 : decode cX9_turned 154 = .ok (.getfield 55, 3) := by decide +kernel
theorem dX9_turned_157 : decode cX9_turned 157 = .ok (.iload 6, 2) := by decide +kernel
theorem dX9_turned_159 : decode cX9_turned 159 = .ok (.invokevirtual 237, 3) := by decide +kernel
theorem dX9_turned_162 : decode cX9_turned 162 = .ok (.invokevirtual 309, 3) := by decide +kernel
theorem dX9_turned_165 : decode cX9_turned 165 = .ok (.iinc 6 1, 3) := by decide +kernel
theorem dX9_turned_168 : decode cX9_turned 168 = .ok (.goto (-78), 3) := by decide +kernel
theorem dX9_turned_171 : decode cX9_turned 171 = .ok (.iload_n 3, 1) := by decide +kernel
theorem dX9_turned_172 : decode cX9_turned 172 = .ok (.iconst 2, 1) := by decide +kernel
theorem dX9_turned_173 : decode cX9_turned 173 = .ok (.if_icmp .ge 14, 3) := by decide +kernel
theorem dX9_turned_176 : decode cX9_turned 176 = .ok (.aload_n 0, 1) := by decide +kernel
theorem dX9_turned_177 : decode cX9_turned 177 = .ok (.getfield 74, 3) := by decide +kernel
theorem dX9_turned_180 : decode cX9_turned 180 = .ok (.iload_n 3, 1) := by decide +kernel
theorem dX9_turned_181 : decode cX9_turned 181 = .ok (.iconst 1, 1) := by decide +kernel
theorem dX9_turned_182 : decode cX9_turned 182 = .ok (.iadd, 1) := by decide +kernel
theorem dX9_turned_183 : decode cX9_turned 183 = .ok (.invokevirtual 228, 3) := by decide +kernel
theorem dX9_turned_186 : decode cX9_turned 186 = .ok (.ireturn, 1) := by decide +kernel
theorem dX9_turned_187 : decode cX9_turned 187 = .ok (.aload_n 0, 1) := by decide +kernel
theorem dX9_turned_188 : decode cX9_turned 188 = .ok (.getfield 74, 3) := by decide +kernel
theorem dX9_turned_191 : decode cX9_turned 191 = .ok (.invokevirtual 311, 3) := by decide +kernel
theorem dX9_turned_194 : decode cX9_turned 194 = .ok (.ifCond .ne 32, 3) := by decide +kernel
theorem dX9_turned_197 : decode cX9_turned 197 = .ok (.aload_n 0, 1) := by decide +kernel
theorem dX9_turned_198 : decode cX9_turned 198 = .ok (.iload 4, 2) := by decide +kernel
theorem dX9_turned_200 : decode cX9_turned 200 = .ok (.iload 5, 2) := by decide +kernel
theorem dX9_turned_202 : decode cX9_turned 202 = .ok (.aload_n 0, 1) := by decide +kernel
theorem dX9_turned_203 : decode cX9_turned 203 = .ok (.getfield 74, 3) := by decide +kernel
theorem dX9_turned_206 : decode cX9_turned 206 = .ok (.invokevirtual 314, 3) := by decide +kernel
theorem dX9_turned_209 : decode cX9_turned 209 = .ok (.aload_n 0, 1) := by decide +kernel
theorem dX9_turned_210 : decode cX9_turned 210 = .ok (.getfield 74, 3) := by decide +kernel
theorem dX9_turned_213 : decode cX9_turned 213 = .ok (.invokevirtual 317, 3) := by decide +kernel
theorem dX9_turned_216 : decode cX9_turned 216 = .ok (.invokevirtual 320, 3) := by decide +kernel
theorem dX9_turned_219 : decode cX9_turned 219 = .ok (.ifCond .eq 7, 3) := by decide +kernel
theorem dX9_turned_222 : decode cX9_turned 222 = .ok (.iconst 1, 1) := by decide +kernel
theorem dX9_turned_223 : decode cX9_turned 223 = .ok (.goto 4, 3) := by decide +kernel
theorem dX9_turned_226 : decode cX9_turned 226 = .ok (.iconst 0, 1) := by decide +kernel
theorem dX9_turned_227 : decode cX9_turned 227 = .ok (.ireturn, 1) := by decide +kernel
theorem dX9_meet_0 : decode cX9_meet 0 = .ok (.aload_n 0, 1) := by decide +kernel
theorem dX9_meet_1 : decode cX9_meet 1 = .ok (.getfield 19, 3) := by decide +kernel
theorem dX9_meet_4 : decode cX9_meet 4 = .ok (.iload_n 1, 1) := by decide +kernel
theorem dX9_meet_5 : decode cX9_meet 5 = .ok (.invokevirtual 182, 3) := by decide +kernel
theorem dX9_meet_8 : decode cX9_meet 8 = .ok (.ifCond .eq 23, 3) := by decide +kernel
theorem dX9_meet_11 : decode cX9_meet 11 = .ok (.aload_n 0, 1) := by decide +kernel
theorem dX9_meet_12 : decode cX9_meet 12 = .ok (.getfield 19, 3) := by decide +kernel
theorem dX9_meet_15 : decode cX9_meet 15 = .ok (.iload_n 2, 1) := by decide +kernel
theorem dX9_meet_16 : decode cX9_meet 16 = .ok (.invokevirtual 182, 3) := by decide +kernel
theorem dX9_meet_19 : decode cX9_meet 19 = .ok (.ifCond .eq 12, 3) := by decide +kernel
theorem dX9_meet_22 : decode cX9_meet 22 = .ok (.iload_n 3, 1) := by decide +kernel
theorem dX9_meet_23 : decode cX9_meet 23 = .ok (.ifCond .lt 8, 3) := by decide +kernel
theorem dX9_meet_26 : decode cX9_meet 26 = .ok (.iload_n 3, 1) := by decide +kernel
theorem dX9_meet_27 : decode cX9_meet 27 = .ok (.iconst 2, 1) := by decide +kernel
theorem dX9_meet_28 : decode cX9_meet 28 = .ok (.if_icmp .le 6, 3) := by decide +kernel
theorem dX9_meet_31 : decode cX9_meet 31 = .ok (.ldc 88, 2) := by decide +kernel
theorem dX9_meet_33 : decode cX9_meet 33 = .ok (.ireturn, 1) := by decide +kernel
theorem dX9_meet_34 : decode cX9_meet 34 = .ok (.aload_n 0, 1) := by decide +kernel
theorem dX9_meet_35 : decode cX9_meet 35 = .ok (.aload_n 0, 1) := by decide +kernel
theorem dX9_meet_36 : decode cX9_meet 36 = .ok (.getfield 51, 3) := by decide +kernel
theorem dX9_meet_39 : decode cX9_meet 39 = .ok (.iload_n 1, 1) := by decide +kernel
theorem dX9_meet_40 : decode cX9_meet 40 = .ok (.invokevirtual 298, 3) := by decide +kernel
theorem dX9_meet_43 : decode cX9_meet 43 = .ok (.aload_n 0, 1) := by decide +kernel
theorem dX9_meet_44 : decode cX9_meet 44 = .ok (.aload_n 0, 1) := by decide +kernel
theorem dX9_meet_45 : decode cX9_meet 45 = .ok (.getfield 55, 3) := by decide +kernel
theorem dX9_meet_48 : decode cX9_meet 48 = .ok (.iload_n 2, 1) := by decide +kernel
theorem dX9_meet_49 : decode cX9_meet 49 = .ok (.invokevirtual 298, 3) := by decide +kernel
theorem dX9_meet_52 : decode cX9_meet 52 = .ok (.iconst 0, 1) := by decide +kernel
theorem dX9_meet_53 : decode cX9_meet 53 = .ok (.istore 4, 2) := by decide +kernel
theorem dX9_meet_55 : decode cX9_meet 55 = .ok (.iconst 0, 1) := by decide +kernel
theorem dX9_meet_56 : decode cX9_meet 56 = .ok (.istore 5, 2) := by decide +kernel
theorem dX9_meet_58 : decode cX9_meet 58 = .ok (.iload 5, 2) := by decide +kernel
theorem dX9_meet_60 : decode cX9_meet 60 = .ok (.aload_n 0, 1) := by decide +kernel
theorem dX9_meet_61 : decode cX9_meet 61 = .ok (.getfield 19, 3) := by decide +kernel
theorem dX9_meet_64 : decode cX9_meet 64 = .ok (.invokevirtual 248, 3) := by decide +kernel
theorem dX9_meet_67 : decode cX9_meet 67 = .ok (.if_icmp .ge 74, 3) := by decide +kernel
theorem dX9_meet_70 : decode cX9_meet 70 = .ok (.aload_n 0, 1) := by decide +kernel
theorem dX9_meet_71 : decode cX9_meet 71 = .ok (.aload_n 0, 1) := by decide +kernel
theorem dX9_meet_72 : decode cX9_meet 72 = .ok (.getfield 51, 3) := by decide +kernel
theorem dX9_meet_75 : decode cX9_meet 75 = .ok (.iload 5, 2) := by decide +kernel
theorem dX9_meet_77 : decode cX9_meet 77 = .ok (.iload_n 1, 1) := by decide +kernel
theorem dX9_meet_78 : decode cX9_meet 78 = .ok (.invokevirtual 324, 3) := by decide +kernel
theorem dX9_meet_81 : decode cX9_meet 81 = .ok (.istore 6, 2) := by decide +kernel
theorem dX9_meet_83 : decode cX9_meet 83 = .ok (.aload_n 0, 1) := by decide +kernel
theorem dX9_meet_84 : decode cX9_meet 84 = .ok (.aload_n 0, 1) := by decide +kernel
theorem dX9_meet_85 : decode cX9_meet 85 = .ok (.getfield 55, 3) := by decide +kernel
theorem dX9_meet_88 : decode cX9_meet 88 = .ok (.iload 5, 2) := by decide +kernel
theorem dX9_meet_90 : decode cX9_meet 90 = .ok (.iload_n 2, 1) := by decide +kernel
theorem dX9_meet_91 : decode cX9_meet 91 = .ok (.invokevirtual 324, 3) := by decide +kernel
theorem dX9_meet_94 : decode cX9_meet 94 = .ok (.istore 7, 2) := by decide +kernel
theorem dX9_meet_96 : decode cX9_meet 96 = .ok (.iload_n 3, 1) := by decide +kernel
theorem dX9_meet_97 : decode cX9_meet 97 = .ok (.iconst 2, 1) := by decide +kernel
theorem dX9_meet_98 : decode cX9_meet 98 = .ok (.if_icmp .ne 11, 3) := by decide +kernel
theorem dX9_meet_101 : decode cX9_meet 101 = .ok (.iload 6, 2) := by decide +kernel
theorem dX9_meet_103 : decode cX9_meet 103 = .ok (.ifCond .ne 32, 3) := by decide +kernel
theorem dX9_meet_106 : decode cX9_meet 106 = .ok (.goto 8, 3) := by decide +kernel
theorem dX9_meet_109 : decode cX9_meet 109 = .ok (.iload 6, 2) := by decide +kernel
theorem dX9_meet_111 : decode cX9_meet 111 = .ok (.ifCond .eq 24, 3) := by decide +kernel
theorem dX9_meet_114 : decode cX9_meet 114 = .ok (.iload_n 3, 1) := by decide +kernel
theorem dX9_meet_115 : decode cX9_meet 115 = .ok (.iconst 1, 1) := by decide +kernel
theorem dX9_meet_116 : decode cX9_meet 116 = .ok (.if_icmp .ne 11, 3) := by decide +kernel
theorem dX9_meet_119 : decode cX9_meet 119 = .ok (.iload 7, 2) := by decide +kernel
theorem dX9_meet_121 : decode cX9_meet 121 = .ok (.ifCond .ne 14, 3) := by decide +kernel
theorem dX9_meet_124 : decode cX9_meet 124 = .ok (.goto 8, 3) := by decide +kernel
theorem dX9_meet_127 : decode cX9_meet 127 = .ok (.iload 7, 2) := by decide +kernel
theorem dX9_meet_129 : decode cX9_meet 129 = .ok (.ifCond .eq 6, 3) := by decide +kernel
theorem dX9_meet_132 : decode cX9_meet 132 = .ok (.iinc 4 1, 3) := by decide +kernel
theorem dX9_meet_135 : decode cX9_meet 135 = .ok (.iinc 5 1, 3) := by decide +kernel
theorem dX9_meet_138 : decode cX9_meet 138 = .ok (.goto (-80), 3) := by decide +kernel
theorem dX9_meet_141 : decode cX9_meet 141 = .ok (.iload 4, 2) := by decide +kernel
theorem dX9_meet_143 : decode cX9_meet 143 = .ok (.ireturn, 1) := by decide +kernel
theorem dX9_could_0 : decode cX9_could 0 = .ok (.aload_n 0, 1) := by decide +kernel
theorem dX9_could_1 : decode cX9_could 1 = .ok (.getfield 19, 3) := by decide +kernel
theorem dX9_could_4 : decode cX9_could 4 = .ok (.iload_n 1, 1) := by decide +kernel
theorem dX9_could_5 : decode cX9_could 5 = .ok (.invokevirtual 182, 3) := by decide +kernel
theorem dX9_could_8 : decode cX9_could 8 = .ok (.ifCond .eq 14, 3) := by decide +kernel
theorem dX9_could_11 : decode cX9_could 11 = .ok (.aload_n 0, 1) := by decide +kernel
theorem dX9_could_12 : decode cX9_could 12 = .ok (.getfield 19, 3) := by decide +kernel
theorem dX9_could_15 : decode cX9_could 15 = .ok (.iload_n 2, 1) := by decide +kernel
theorem dX9_could_16 : decode cX9_could 16 = .ok (.invokevirtual 191, 3) := by decide +kernel
theorem dX9_could_19 : decode cX9_could 19 = .ok (.ifCond .ne 6, 3) := by decide +kernel
theorem dX9_could_22 : decode cX9_could 22 = .ok (.ldc 88, 2) := by decide +kernel
theorem dX9_could_24 : decode cX9_could 24 = .ok (.ireturn, 1) := by decide +kernel
theorem dX9_could_25 : decode cX9_could 25 = .ok (.iconst 0, 1) := by decide +kernel
theorem dX9_could_26 : decode cX9_could 26 = .ok (.istore_n 3, 1) := by decide +kernel
theorem dX9_could_27 : decode cX9_could 27 = .ok (.iconst 0, 1) := by decide +kernel
theorem dX9_could_28 : decode cX9_could 28 = .ok (.istore 4, 2) := by decide +kernel
theorem dX9_could_30 : decode cX9_could 30 = .ok (.iload 4, 2) := by decide +kernel
theorem dX9_could_32 : decode cX9_could 32 = .ok (.aload_n 0, 1) := by decide +kernel
theorem dX9_could_33 : decode cX9_could 33 = .ok (.getfield 19, 3) := by decide +kernel
theorem dX9_could_36 : decode cX9_could 36 = .ok (.invokevirtual 126, 3) := by decide +kernel
theorem dX9_could_39 : decode cX9_could 39 = .ok (.if_icmp .ge 42, 3) := by decide +kernel
theorem dX9_could_42 : decode cX9_could 42 = .ok (.aload_n 0, 1) := by decide +kernel
theorem dX9_could_43 : decode cX9_could 43 = .ok (.getfield 51, 3) := by decide +kernel
theorem dX9_could_46 : decode cX9_could 46 = .ok (.aload_n 0, 1) := by decide +kernel
theorem dX9_could_47 : decode cX9_could 47 = .ok (.getfield 19, 3) := by decide +kernel
theorem dX9_could_50 : decode cX9_could 50 = .ok (.iload 4, 2) := by decide +kernel
theorem dX9_could_52 : decode cX9_could 52 = .ok (.invokevirtual 207, 3) := by decide +kernel
theorem dX9_could_55 : decode cX9_could 55 = .ok (.aload_n 0, 1) := by decide +kernel
theorem dX9_could_56 : decode cX9_could 56 = .ok (.aload_n 0, 1) := by decide +kernel
theorem dX9_could_57 : decode cX9_could 57 = .ok (.getfield 51, 3) := by decide +kernel
theorem dX9_could_60 : decode cX9_could 60 = .ok (.iload_n 2, 1) := by decide +kernel
theorem dX9_could_61 : decode cX9_could 61 = .ok (.iload_n 1, 1) := by decide +kernel
theorem dX9_could_62 : decode cX9_could 62 = .ok (.invokevirtual 324, 3) := by decide +kernel
theorem dX9_could_65 : decode cX9_could 65 = .ok (.ifCond .eq 10, 3) := by decide +kernel
theorem dX9_could_68 : decode cX9_could 68 = .ok (.iload_n 3, 1) := by decide +kernel
theorem dX9_could_69 : decode cX9_could 69 = .ok (.iconst 1, 1) := by decide +kernel
theorem dX9_could_70 : decode cX9_could 70 = .ok (.iload 4, 2) := by decide +kernel
theorem dX9_could_72 : decode cX9_could 72 = .ok (.ishl, 1) := by decide +kernel
theorem dX9_could_73 : decode cX9_could 73 = .ok (.ior, 1) := by decide +kernel
theorem dX9_could_74 : decode cX9_could 74 = .ok (.istore_n 3, 1) := by decide +kernel
theorem dX9_could_75 : decode cX9_could 75 = .ok (.iinc 4 1, 3) := by decide +kernel
theorem dX9_could_78 : decode cX9_could 78 = .ok (.goto (-48), 3) := by decide +kernel
theorem dX9_could_81 : decode cX9_could 81 = .ok (.iload_n 3, 1) := by decide +kernel
theorem dX9_could_82 : decode cX9_could 82 = .ok (.ireturn, 1) := by decide +kernel
theorem dX9_best_0 : decode cX9_best 0 = .ok (.aload_n 0, 1) := by decide +kernel
theorem dX9_best_1 : decode cX9_best 1 = .ok (.getfield 19, 3) := by decide +kernel
theorem dX9_best_4 : decode cX9_best 4 = .ok (.invokevirtual 248, 3) := by decide +kernel
theorem dX9_best_7 : decode cX9_best 7 = .ok (.ifCond .ne 6, 3) := by decide +kernel
theorem dX9_best_10 : decode cX9_best 10 = .ok (.ldc 137, 2) := by decide +kernel
theorem dX9_best_12 : decode cX9_best 12 = .ok (.ireturn, 1) := by decide +kernel
theorem dX9_best_13 : decode cX9_best 13 = .ok (.ldc 206, 2) := by decide +kernel
theorem dX9_best_15 : decode cX9_best 15 = .ok (.istore_n 1, 1) := by decide +kernel
theorem dX9_best_16 : decode cX9_best 16 = .ok (.iconst (-1), 1) := by decide +kernel
theorem dX9_best_17 : decode cX9_best 17 = .ok (.istore_n 2, 1) := by decide +kernel
theorem dX9_best_18 : decode cX9_best 18 = .ok (.iconst 0, 1) := by decide +kernel
theorem dX9_best_19 : decode cX9_best 19 = .ok (.istore_n 3, 1) := by decide +kernel
theorem dX9_best_20 : decode cX9_best 20 = .ok (.iload_n 3, 1) := by decide +kernel
theorem dX9_best_21 : decode cX9_best 21 = .ok (.aload_n 0, 1) := by decide +kernel
theorem dX9_best_22 : decode cX9_best 22 = .ok (.getfield 19, 3) := by decide +kernel
theorem dX9_best_25 : decode cX9_best 25 = .ok (.invokevirtual 126, 3) := by decide +kernel
theorem dX9_best_28 : decode cX9_best 28 = .ok (.if_icmp .ge 27, 3) := by decide +kernel
theorem dX9_best_31 : decode cX9_best 31 = .ok (.aload_n 0, 1) := by decide +kernel
theorem dX9_best_32 : decode cX9_best 32 = .ok (.iload_n 3, 1) := by decide +kernel
theorem dX9_best_33 : decode cX9_best 33 = .ok (.invokevirtual 328, 3) := by decide +kernel
theorem dX9_best_36 : decode cX9_best 36 = .ok (.istore 4, 2) := by decide +kernel
theorem dX9_best_38 : decode cX9_best 38 = .ok (.iload 4, 2) := by decide +kernel
theorem dX9_best_40 : decode cX9_best 40 = .ok (.iload_n 2, 1) := by decide +kernel
theorem dX9_best_41 : decode cX9_best 41 = .ok (.if_icmp .le 8, 3) := by decide +kernel
theorem dX9_best_44 : decode cX9_best 44 = .ok (.iload 4, 2) := by decide +kernel
theorem dX9_best_46 : decode cX9_best 46 = .ok (.istore_n 2, 1) := by decide +kernel
theorem dX9_best_47 : decode cX9_best 47 = .ok (.iload_n 3, 1) := by decide +kernel
theorem dX9_best_48 : decode cX9_best 48 = .ok (.istore_n 1, 1) := by decide +kernel
theorem dX9_best_49 : decode cX9_best 49 = .ok (.iinc 3 1, 3) := by decide +kernel
theorem dX9_best_52 : decode cX9_best 52 = .ok (.goto (-32), 3) := by decide +kernel
theorem dX9_best_55 : decode cX9_best 55 = .ok (.iload_n 1, 1) := by decide +kernel
theorem dX9_best_56 : decode cX9_best 56 = .ok (.ireturn, 1) := by decide +kernel
theorem dX9_image_0 : decode cX9_image 0 = .ok (.iload_n 1, 1) := by decide +kernel
theorem dX9_image_1 : decode cX9_image 1 = .ok (.ifCond .lt 12, 3) := by decide +kernel
theorem dX9_image_4 : decode cX9_image 4 = .ok (.iload_n 1, 1) := by decide +kernel
theorem dX9_image_5 : decode cX9_image 5 = .ok (.aload_n 0, 1) := by decide +kernel
theorem dX9_image_6 : decode cX9_image 6 = .ok (.getfield 44, 3) := by decide +kernel
theorem dX9_image_9 : decode cX9_image 9 = .ok (.arraylength, 1) := by decide +kernel
theorem dX9_image_10 : decode cX9_image 10 = .ok (.if_icmp .lt 6, 3) := by decide +kernel
theorem dX9_image_13 : decode cX9_image 13 = .ok (.ldc 88, 2) := by decide +kernel
theorem dX9_image_15 : decode cX9_image 15 = .ok (.ireturn, 1) := by decide +kernel
theorem dX9_image_16 : decode cX9_image 16 = .ok (.aload_n 0, 1) := by decide +kernel
theorem dX9_image_17 : decode cX9_image 17 = .ok (.getfield 19, 3) := by decide +kernel
theorem dX9_image_20 : decode cX9_image 20 = .ok (.invokevirtual 248, 3) := by decide +kernel
theorem dX9_image_23 : decode cX9_image 23 = .ok (.ifCond .ne 6, 3) := by decide +kernel
theorem dX9_image_26 : decode cX9_image 26 = .ok (.ldc 137, 2) := by decide +kernel
theorem dX9_image_28 : decode cX9_image 28 = .ok (.ireturn, 1) := by decide +kernel
theorem dX9_image_29 : decode cX9_image 29 = .ok (.aload_n 0, 1) := by decide +kernel
theorem dX9_image_30 : decode cX9_image 30 = .ok (.getfield 44, 3) := by decide +kernel
theorem dX9_image_33 : decode cX9_image 33 = .ok (.iload_n 1, 1) := by decide +kernel
theorem dX9_image_34 : decode cX9_image 34 = .ok (.aaload, 1) := by decide +kernel
theorem dX9_image_35 : decode cX9_image 35 = .ok (.astore_n 2, 1) := by decide +kernel
theorem dX9_image_36 : decode cX9_image 36 = .ok (.aload_n 2, 1) := by decide +kernel
theorem dX9_image_37 : decode cX9_image 37 = .ok (.ifnonnull 18, 3) := by decide +kernel
theorem dX9_image_40 : decode cX9_image 40 = .ok (.new 42, 3) := by decide +kernel
theorem dX9_image_43 : decode cX9_image 43 = .ok (.dup, 1) := by decide +kernel
theorem dX9_image_44 : decode cX9_image 44 = .ok (.invokespecial 331, 3) := by decide +kernel
theorem dX9_image_47 : decode cX9_image 47 = .ok (.astore_n 2, 1) := by decide +kernel
theorem dX9_image_48 : decode cX9_image 48 = .ok (.aload_n 0, 1) := by decide +kernel
theorem dX9_image_49 : decode cX9_image 49 = .ok (.getfield 44, 3) := by decide +kernel
theorem dX9_image_52 : decode cX9_image 52 = .ok (.iload_n 1, 1) := by decide +kernel
theorem dX9_image_53 : decode cX9_image 53 = .ok (.aload_n 2, 1) := by decide +kernel
theorem dX9_image_54 : decode cX9_image 54 = .ok (.aastore, 1) := by decide +kernel
theorem dX9_image_55 : decode cX9_image 55 = .ok (.aload_n 2, 1) := by decide +kernel
theorem dX9_image_56 : decode cX9_image 56 = .ok (.getfield 332, 3) := by decide +kernel
theorem dX9_image_59 : decode cX9_image 59 = .ok (.aload_n 0, 1) := by decide +kernel
theorem dX9_image_60 : decode cX9_image 60 = .ok (.getfield 19, 3) := by decide +kernel
theorem dX9_image_63 : decode cX9_image 63 = .ok (.invokevirtual 119, 3) := by decide +kernel
theorem dX9_image_66 : decode cX9_image 66 = .ok (.aload_n 2, 1) := by decide +kernel
theorem dX9_image_67 : decode cX9_image 67 = .ok (.getfield 335, 3) := by decide +kernel
theorem dX9_image_70 : decode cX9_image 70 = .ok (.aload_n 0, 1) := by decide +kernel
theorem dX9_image_71 : decode cX9_image 71 = .ok (.getfield 10, 3) := by decide +kernel
theorem dX9_image_74 : decode cX9_image 74 = .ok (.invokevirtual 336, 3) := by decide +kernel
theorem dX9_image_77 : decode cX9_image 77 = .ok (.iconst 1, 1) := by decide +kernel
theorem dX9_image_78 : decode cX9_image 78 = .ok (.ireturn, 1) := by decide +kernel
theorem dX9_restore_0 : decode cX9_restore 0 = .ok (.iload_n 1, 1) := by decide +kernel
theorem dX9_restore_1 : decode cX9_restore 1 = .ok (.ifCond .lt 12, 3) := by decide +kernel
theorem dX9_restore_4 : decode cX9_restore 4 = .ok (.iload_n 1, 1) := by decide +kernel
theorem dX9_restore_5 : decode cX9_restore 5 = .ok (.aload_n 0, 1) := by decide +kernel
theorem dX9_restore_6 : decode cX9_restore 6 = .ok (.getfield 44, 3) := by decide +kernel
theorem dX9_restore_9 : decode cX9_restore 9 = .ok (.arraylength, 1) := by decide +kernel
theorem dX9_restore_10 : decode cX9_restore 10 = .ok (.if_icmp .lt 6, 3) := by decide +kernel
theorem dX9_restore_13 : decode cX9_restore 13 = .ok (.ldc 88, 2) := by decide +kernel
theorem dX9_restore_15 : decode cX9_restore 15 = .ok (.ireturn, 1) := by decide +kernel
theorem dX9_restore_16 : decode cX9_restore 16 = .ok (.aload_n 0, 1) := by decide +kernel
theorem dX9_restore_17 : decode cX9_restore 17 = .ok (.getfield 44, 3) := by decide +kernel
theorem dX9_restore_20 : decode cX9_restore 20 = .ok (.iload_n 1, 1) := by decide +kernel
theorem dX9_restore_21 : decode cX9_restore 21 = .ok (.aaload, 1) := by decide +kernel
theorem dX9_restore_22 : decode cX9_restore 22 = .ok (.astore_n 2, 1) := by decide +kernel
theorem dX9_restore_23 : decode cX9_restore 23 = .ok (.aload_n 2, 1) := by decide +kernel
theorem dX9_restore_24 : decode cX9_restore 24 = .ok (.ifnonnull 6, 3) := by decide +kernel
theorem dX9_restore_27 : decode cX9_restore 27 = .ok (.ldc 137, 2) := by decide +kernel
theorem dX9_restore_29 : decode cX9_restore 29 = .ok (.ireturn, 1) := by decide +kernel
theorem dX9_restore_30 : decode cX9_restore 30 = .ok (.aload_n 0, 1) := by decide +kernel
theorem dX9_restore_31 : decode cX9_restore 31 = .ok (.getfield 19, 3) := by decide +kernel
theorem dX9_restore_34 : decode cX9_restore 34 = .ok (.aload_n 2, 1) := by decide +kernel
theorem dX9_restore_35 : decode cX9_restore 35 = .ok (.getfield 332, 3) := by decide +kernel
theorem dX9_restore_38 : decode cX9_restore 38 = .ok (.invokevirtual 119, 3) := by decide +kernel
theorem dX9_restore_41 : decode cX9_restore 41 = .ok (.aload_n 0, 1) := by decide +kernel
theorem dX9_restore_42 : decode cX9_restore 42 = .ok (.getfield 10, 3) := by decide +kernel
theorem dX9_restore_45 : decode cX9_restore 45 = .ok (.aload_n 2, 1) := by decide +kernel
theorem dX9_restore_46 : decode cX9_restore 46 = .ok (.getfield 335, 3) := by decide +kernel
theorem dX9_restore_49 : decode cX9_restore 49 = .ok (.invokevirtual 336, 3) := by decide +kernel
theorem dX9_restore_52 : decode cX9_restore 52 = .ok (.aload_n 0, 1) := by decide +kernel
theorem dX9_restore_53 : decode cX9_restore 53 = .ok (.getfield 38, 3) := by decide +kernel
theorem dX9_restore_56 : decode cX9_restore 56 = .ok (.invokevirtual 123, 3) := by decide +kernel
theorem dX9_restore_59 : decode cX9_restore 59 = .ok (.iconst 1, 1) := by decide +kernel
theorem dX9_restore_60 : decode cX9_restore 60 = .ok (.ireturn, 1) := by decide +kernel
theorem dX9_count_0 : decode cX9_count 0 = .ok (.iload_n 1, 1) := by decide +kernel
theorem dX9_count_1 : decode cX9_count 1 = .ok (.tableswitch 99 0 6 #[43, 51, 59, 67, 75, 83, 91], 43) := by decide +kernel
theorem dX9_count_44 : decode cX9_count 44 = .ok (.aload_n 0, 1) := by decide +kernel
theorem dX9_count_45 : decode cX9_count 45 = .ok (.getfield 19, 3) := by decide +kernel
theorem dX9_count_48 : decode cX9_count 48 = .ok (.invokevirtual 248, 3) := by decide +kernel
theorem dX9_count_51 : decode cX9_count 51 = .ok (.ireturn, 1) := by decide +kernel
theorem dX9_count_52 : decode cX9_count 52 = .ok (.aload_n 0, 1) := by decide +kernel
theorem dX9_count_53 : decode cX9_count 53 = .ok (.getfield 19, 3) := by decide +kernel
theorem dX9_count_56 : decode cX9_count 56 = .ok (.invokevirtual 126, 3) := by decide +kernel
theorem dX9_count_59 : decode cX9_count 59 = .ok (.ireturn, 1) := by decide +kernel
theorem dX9_count_60 : decode cX9_count 60 = .ok (.aload_n 0, 1) := by decide +kernel
theorem dX9_count_61 : decode cX9_count 61 = .ok (.getfield 19, 3) := by decide +kernel
theorem dX9_count_64 : decode cX9_count 64 = .ok (.invokevirtual 339, 3) := by decide +kernel
theorem dX9_count_67 : decode cX9_count 67 = .ok (.ireturn, 1) := by decide +kernel
theorem dX9_count_68 : decode cX9_count 68 = .ok (.aload_n 0, 1) := by decide +kernel
theorem dX9_count_69 : decode cX9_count 69 = .ok (.getfield 19, 3) := by decide +kernel
theorem dX9_count_72 : decode cX9_count 72 = .ok (.invokevirtual 188, 3) := by decide +kernel
theorem dX9_count_75 : decode cX9_count 75 = .ok (.ireturn, 1) := by decide +kernel
theorem dX9_count_76 : decode cX9_count 76 = .ok (.aload_n 0, 1) := by decide +kernel
theorem dX9_count_77 : decode cX9_count 77 = .ok (.getfield 19, 3) := by decide +kernel
theorem dX9_count_80 : decode cX9_count 80 = .ok (.invokevirtual 194, 3) := by decide +kernel
theorem dX9_count_83 : decode cX9_count 83 = .ok (.ireturn, 1) := by decide +kernel
theorem dX9_count_84 : decode cX9_count 84 = .ok (.aload_n 0, 1) := by decide +kernel
theorem dX9_count_85 : decode cX9_count 85 = .ok (.getfield 38, 3) := by decide +kernel
theorem dX9_count_88 : decode cX9_count 88 = .ok (.invokevirtual 136, 3) := by decide +kernel
theorem dX9_count_91 : decode cX9_count 91 = .ok (.ireturn, 1) := by decide +kernel
theorem dX9_count_92 : decode cX9_count 92 = .ok (.aload_n 0, 1) := by decide +kernel
theorem dX9_count_93 : decode cX9_count 93 = .ok (.getfield 10, 3) := by decide +kernel
theorem dX9_count_96 : decode cX9_count 96 = .ok (.invokevirtual 93, 3) := by decide +kernel
theorem dX9_count_99 : decode cX9_count 99 = .ok (.ireturn, 1) := by decide +kernel
theorem dX9_count_100 : decode cX9_count 100 = .ok (.ldc 88, 2) := by decide +kernel
theorem dX9_count_102 : decode cX9_count 102 = .ok (.ireturn, 1) := by decide +kernel
def w_X9_fault : List Cond := .code yX9_fault cX9_fault 1 (some .int) :: ([.fieldLink RX9 10 "LineCites" "tape" "LLineCites$Tape;", .methodLink RX9 129 yX7_latestFault, .instanceMethod yX7_latestFault, .selects RX7 yX7_latestFault yX7_latestFault, .initialized RX7, .code yX7_latestFault cX7_latestFault 1 (some .int), .fieldLink RX7 19 "LineCites$Tape" "latestFault" "I"] ++ wsX90 ++ wsX70)
set_option maxRecDepth 20000 in
theorem g_X9_fault_X7_latestFault : GoodIn w_X9_fault (wsV RX9 129 RX7 yX7_latestFault w_X7_latestFault) := goodIn_r _ [2, 3, 4, 5, 6, 7, 22, 23, 24] rfl (by decide +kernel)
set_option maxHeartbeats 4000000 in
set_option maxRecDepth 100000 in
theorem c_X9_fault (l : Launch) (D : va_G) (h0 : Nat) (a_tape : Nat) (a_now : Nat) (a_draft : Nat) (a_reader : Nat) (a_acts : Nat) (a_images : Nat) (a_one : Nat) (a_other : Nat) (a_third : Nat) (a_spans : Nat) (a_back : Nat) (a_span : Nat) (a_middle : Nat) (a_reached : Nat) (a_b : Nat) : Met l yX9_fault w_X9_fault ({ frames := 1, cells := 0, slots := 0, locals := 20 }) (va_Pc [.ref h0] (fun U => va_P D vwCl [(h0, .inr (9, [.ref a_tape, .ref a_now, .ref a_draft, .ref a_reader, .ref a_acts, .ref a_images, .ref a_one, .ref a_other, .ref a_third, .ref a_spans, .ref a_back, .ref a_span, .ref a_middle, .ref a_reached])), (a_tape, .inr (7, [.ref a_b, .int 0, .int 0]))] U.heap ∧ va_K D vwCl [] U)) (va_Qi (fun (r : Int32) (_ : Unit) => r = 0) (fun _ _ => True) (fun _ => False)) 0 0 (fun _ => False) := by
  refine Met.ofW (cc := cX9_fault) (maxL := 1) (ret := (some .int)) (by decide) rfl ?_
  intro p e s m args below meth c s₁ B hml hv
  obtain ⟨rfl, hP, hK⟩ := hv
  have hx := B.exec
  have hb := B.bytes
  have hr := B.returns
  have hts := atoms_spec (ws := w_X9_fault) B.pre
  have hown : s.vm.findClass RX9 = some m.cls := findClass_of_methodNamed B.named
  have hlocks := B.notSynchronized
  have hS : va_S (fun _ : Nat => False) s.heap s.heap [] := va_S.rf
  have hP : va_P D vwCl [(h0, .inr (9, [.ref a_tape, .ref a_now, .ref a_draft, .ref a_reader, .ref a_acts, .ref a_images, .ref a_one, .ref a_other, .ref a_third, .ref a_spans, .ref a_back, .ref a_span, .ref a_middle, .ref a_reached])), (a_tape, .inr (7, [.ref a_b, .int 0, .int 0]))] s.heap := hP
  have hl := lv_entry ([.ref h0]) (n := 1) (Nat.le_of_ble_eq_true rfl)
  rw [lg_entry_eq]
  generalize (lg_sl ([.ref h0]) ++ List.replicate (1 - (lg_sl ([.ref h0])).length) Slot.unset).toArray = ls at hl ⊢
  have hl : lv_has ls 1 [(0, .ref h0)] := hl
  obtain ⟨H, hHe⟩ : ∃ H : Heap, H = s.heap := ⟨_, rfl⟩
  rw [← hHe] at hP
  have hS : va_S (fun _ : Nat => False) s.heap H [] := by rw [hHe]; exact hS
  refine pw_heap hHe ?_
  refine lv_aload_n hx hb dX9_fault_0 rfl (lv_at hl 0 rfl) ?_
  refine va_get (D := D) (ci := 9) (v := .ref a_tape) (C := RX9) (T := TX9) (N := 14) hx hb hts (fun _ h => List.mem_cons_of_mem _ (List.mem_append_left _ (List.mem_append_right _ h))) hown hK hP 0 rfl rfl 0 (by decide) (hts (.fieldLink RX9 10 "LineCites" "tape" "LLineCites$Tape;") (List.mem_of_getElem? (i := 1) rfl)) (fun _ h9 => h9) rfl dX9_fault_1 ?_
  have hPc := hP.sub (ws' := [(a_tape, .inr (7, [.ref a_b, .int 0, .int 0]))]) [1] rfl
  have hKc := hK.sub (tys' := []) [] rfl
  refine va_calli (va_runV (As := []) (rest := []) ⟨hx, hb, hml, hown, hts⟩ (c_X7_latestFault l D a_tape a_b) (cwV 0 hts g_X9_fault_X7_latestFault rfl rfl rfl (by decide +kernel) ⟨Nat.le_of_ble_eq_true rfl, Nat.le_of_ble_eq_true rfl⟩) ⟨fun a U g mk q => by obtain ⟨q0, qP, qK⟩ := q; exact ⟨q0, qP, va_K.moved (u := U) (U := U.calling g mk a) (Vm.Alike.refl U.vm) qK⟩, va_recv hKc hPc (ci := 7) (q0 := 0) rfl rfl, fun U hU hW => ⟨rfl, by rw [hU]; exact hPc, va_K.moved hW.alike hKc⟩⟩ rfl rfl hl.1 rfl (lv_room (Nat.le_of_ble_eq_true rfl)) dX9_fault_4 ⟨Nat.le_of_ble_eq_true rfl, Nat.le_of_ble_eq_true rfl⟩) hS (fun _ _ h => h.elim) (fun _ h => h.elim) (fun r1 u t H1 locs ht hvm hw hB hz1 hk1 hS => ?_)
  have hP := pw_keep hP (fun q hq => hk1 q hq (fun h => h))
  generalize H1 = H at hP hS ⊢
  refine W.widen (k := 0) (n := 0) (Nat.le_of_ble_eq_true rfl) (Nat.le_of_ble_eq_true rfl) ?_
  obtain rfl : r1 = 0 := hw
  exact W.iret (v := 0) hx hb hr (fun t ht hW => ⟨⟨0, (), rfl, rfl, trivial⟩, hS.F ht⟩) hS.2.2 dX9_fault_7
def w_X9_undo : List Cond := .code yX9_undo cX9_undo 1 (some .int) :: ([.fieldLink RX9 38 "LineCites" "acts" "LLineCites$Acts;", .fieldLink RX9 19 "LineCites" "now" "LLineCites$Work;", .methodLink RX9 132 yX0_takeBack, .instanceMethod yX0_takeBack, .selects RX0 yX0_takeBack yX0_takeBack, .initialized RX0, .code yX0_takeBack cX0_takeBack 4 (some .boolean), .fieldLink RX0 21 "LineCites$Acts" "next" "I", .fieldLink RX0 17 "LineCites$Acts" "size" "I", .constant RX9 137 (-1000002)] ++ wsX90 ++ wsX00)
set_option maxRecDepth 20000 in
theorem g_X9_undo_X0_takeBack : GoodIn w_X9_undo (wsV RX9 132 RX0 yX0_takeBack w_X0_takeBack) := goodIn_r _ [3, 4, 5, 6, 7, 8, 9, 25, 26, 27] rfl (by decide +kernel)
set_option maxHeartbeats 4000000 in
set_option maxRecDepth 100000 in
theorem c_X9_undo (l : Launch) (D : va_G) (h0 : Nat) (a_tape : Nat) (a_now : Nat) (a_draft : Nat) (a_reader : Nat) (a_acts : Nat) (a_images : Nat) (a_one : Nat) (a_other : Nat) (a_third : Nat) (a_spans : Nat) (a_back : Nat) (a_span : Nat) (a_middle : Nat) (a_reached : Nat) (a_ring : Nat) : Met l yX9_undo w_X9_undo ({ frames := 1, cells := 0, slots := 0, locals := 23 }) (va_Pc [.ref h0] (fun U => va_P D vwCl [(h0, .inr (9, [.ref a_tape, .ref a_now, .ref a_draft, .ref a_reader, .ref a_acts, .ref a_images, .ref a_one, .ref a_other, .ref a_third, .ref a_spans, .ref a_back, .ref a_span, .ref a_middle, .ref a_reached])), (a_acts, .inr (0, [.ref a_ring, .int 0, .int 0]))] U.heap ∧ va_K D vwCl [] U)) (va_Qi (fun (r : Int32) (_ : Unit) => r = (-1000002)) (fun _ _ => True) (fun _ => False)) 0 0 (fun _ => False) := by
  refine Met.ofW (cc := cX9_undo) (maxL := 1) (ret := (some .int)) (by decide) rfl ?_
  intro p e s m args below meth c s₁ B hml hv
  obtain ⟨rfl, hP, hK⟩ := hv
  have hx := B.exec
  have hb := B.bytes
  have hr := B.returns
  have hts := atoms_spec (ws := w_X9_undo) B.pre
  have hown : s.vm.findClass RX9 = some m.cls := findClass_of_methodNamed B.named
  have hlocks := B.notSynchronized
  have hS : va_S (fun _ : Nat => False) s.heap s.heap [] := va_S.rf
  have hP : va_P D vwCl [(h0, .inr (9, [.ref a_tape, .ref a_now, .ref a_draft, .ref a_reader, .ref a_acts, .ref a_images, .ref a_one, .ref a_other, .ref a_third, .ref a_spans, .ref a_back, .ref a_span, .ref a_middle, .ref a_reached])), (a_acts, .inr (0, [.ref a_ring, .int 0, .int 0]))] s.heap := hP
  have hl := lv_entry ([.ref h0]) (n := 1) (Nat.le_of_ble_eq_true rfl)
  rw [lg_entry_eq]
  generalize (lg_sl ([.ref h0]) ++ List.replicate (1 - (lg_sl ([.ref h0])).length) Slot.unset).toArray = ls at hl ⊢
  have hl : lv_has ls 1 [(0, .ref h0)] := hl
  obtain ⟨H, hHe⟩ : ∃ H : Heap, H = s.heap := ⟨_, rfl⟩
  rw [← hHe] at hP
  have hS : va_S (fun _ : Nat => False) s.heap H [] := by rw [hHe]; exact hS
  refine pw_heap hHe ?_
  refine lv_aload_n hx hb dX9_undo_0 rfl (lv_at hl 0 rfl) ?_
  refine va_get (D := D) (ci := 9) (v := .ref a_acts) (C := RX9) (T := TX9) (N := 14) hx hb hts (fun _ h => List.mem_cons_of_mem _ (List.mem_append_left _ (List.mem_append_right _ h))) hown hK hP 0 rfl rfl 4 (by decide) (hts (.fieldLink RX9 38 "LineCites" "acts" "LLineCites$Acts;") (List.mem_of_getElem? (i := 1) rfl)) (fun _ h9 => h9) rfl dX9_undo_1 ?_
  refine lv_aload_n hx hb dX9_undo_4 rfl (lv_at hl 0 rfl) ?_
  refine va_get (D := D) (ci := 9) (v := .ref a_now) (C := RX9) (T := TX9) (N := 14) hx hb hts (fun _ h => List.mem_cons_of_mem _ (List.mem_append_left _ (List.mem_append_right _ h))) hown hK hP 0 rfl rfl 1 (by decide) (hts (.fieldLink RX9 19 "LineCites" "now" "LLineCites$Work;") (List.mem_of_getElem? (i := 2) rfl)) (fun _ h9 => h9) rfl dX9_undo_5 ?_
  have hPc := hP.sub (ws' := [(a_acts, .inr (0, [.ref a_ring, .int 0, .int 0]))]) [1] rfl
  have hKc := hK.sub (tys' := []) [] rfl
  refine va_calli (va_runV (As := [.ref a_now]) (rest := []) ⟨hx, hb, hml, hown, hts⟩ (c_X0_takeBack l D a_acts a_now a_ring) (cwV 1 hts g_X9_undo_X0_takeBack rfl rfl rfl (by decide +kernel) ⟨Nat.le_of_ble_eq_true rfl, Nat.le_of_ble_eq_true rfl⟩) ⟨fun a U g mk q => by obtain ⟨q0, qP, qK⟩ := q; exact ⟨q0, qP, va_K.moved (u := U) (U := U.calling g mk a) (Vm.Alike.refl U.vm) qK⟩, va_recv hKc hPc (ci := 0) (q0 := 0) rfl rfl, fun U hU hW => ⟨rfl, by rw [hU]; exact hPc, va_K.moved hW.alike hKc⟩⟩ rfl rfl hl.1 rfl (lv_room (Nat.le_of_ble_eq_true rfl)) dX9_undo_8 ⟨Nat.le_of_ble_eq_true rfl, Nat.le_of_ble_eq_true rfl⟩) hS (fun _ _ h => h.elim) (fun _ h => h.elim) (fun r1 u t H1 locs ht hvm hw hB hz1 hk1 hS => ?_)
  have hP := pw_keep hP (fun q hq => hk1 q hq (fun h => h))
  generalize H1 = H at hP hS ⊢
  refine W.widen (k := 0) (n := 0) (Nat.le_of_ble_eq_true rfl) (Nat.le_of_ble_eq_true rfl) ?_
  obtain rfl : r1 = 0 := hw
  refine lv_if_eq (tgt := 24) hx hb dX9_undo_11 (by decide) (fun c2 => ?_) (fun c2 => absurd (by decide) c2)
  refine lv_ldc hx hb hown (hts (.constant RX9 137 (-1000002)) (List.mem_of_getElem? (i := 10) rfl)) dX9_undo_24 ?_
  exact W.iret (v := (-1000002)) hx hb hr (fun t ht hW => ⟨⟨(-1000002), (), rfl, rfl, trivial⟩, hS.F ht⟩) hS.2.2 dX9_undo_26
def w_X9_add : List Cond := .code yX9_add cX9_add 6 (some .int) :: ([.fieldLink RX9 19 "LineCites" "now" "LLineCites$Work;", .methodLink RX9 138 yX8_hasEdition, .instanceMethod yX8_hasEdition, .selects RX8 yX8_hasEdition yX8_hasEdition, .initialized RX8, .code yX8_hasEdition cX8_hasEdition 2 (some .boolean), .fieldLink RX8 37 "LineCites$Work" "editions" "I", .constant RX9 88 (-1000001)] ++ wsX90 ++ wsX80)
set_option maxRecDepth 20000 in
theorem g_X9_add_X8_hasEdition : GoodIn w_X9_add (wsV RX9 138 RX8 yX8_hasEdition w_X8_hasEdition) := goodIn_r _ [2, 3, 4, 5, 6, 7, 23, 24, 25, 26, 27, 28, 29, 30] rfl (by decide +kernel)
set_option maxHeartbeats 4000000 in
set_option maxRecDepth 100000 in
theorem c_X9_add (l : Launch) (D : va_G) (h0 : Nat) (i_0 : Int32) (i_1 : Int32) (i_2 : Int32) (i_3 : Int32) (i_4 : Int32) (a_tape : Nat) (a_now : Nat) (a_draft : Nat) (a_reader : Nat) (a_acts : Nat) (a_images : Nat) (a_one : Nat) (a_other : Nat) (a_third : Nat) (a_spans : Nat) (a_back : Nat) (a_span : Nat) (a_middle : Nat) (a_reached : Nat) (b_sc : Nat) (b_sp : Nat) (b_cp : Nat) (b_sn : Nat) (b_sl : Nat) : Met l yX9_add w_X9_add ({ frames := 1, cells := 0, slots := 0, locals := 21 }) (va_Pc [.ref h0, .int i_0, .int i_1, .int i_2, .int i_3, .int i_4] (fun U => va_P D vwCl [(h0, .inr (9, [.ref a_tape, .ref a_now, .ref a_draft, .ref a_reader, .ref a_acts, .ref a_images, .ref a_one, .ref a_other, .ref a_third, .ref a_spans, .ref a_back, .ref a_span, .ref a_middle, .ref a_reached])), (a_now, .inr (8, [.ref b_sc, .ref b_sp, .ref b_cp, .ref b_sn, .ref b_sl, .int 0, .int 0, .int 0]))] U.heap ∧ va_K D vwCl [] U)) (va_Qi (fun (r : Int32) (_ : Unit) => r = (-1000001)) (fun _ _ => True) (fun _ => False)) 0 0 (fun _ => False) := by
  refine Met.ofW (cc := cX9_add) (maxL := 6) (ret := (some .int)) (by decide) rfl ?_
  intro p e s m args below meth c s₁ B hml hv
  obtain ⟨rfl, hP, hK⟩ := hv
  have hx := B.exec
  have hb := B.bytes
  have hr := B.returns
  have hts := atoms_spec (ws := w_X9_add) B.pre
  have hown : s.vm.findClass RX9 = some m.cls := findClass_of_methodNamed B.named
  have hlocks := B.notSynchronized
  have hS : va_S (fun _ : Nat => False) s.heap s.heap [] := va_S.rf
  have hP : va_P D vwCl [(h0, .inr (9, [.ref a_tape, .ref a_now, .ref a_draft, .ref a_reader, .ref a_acts, .ref a_images, .ref a_one, .ref a_other, .ref a_third, .ref a_spans, .ref a_back, .ref a_span, .ref a_middle, .ref a_reached])), (a_now, .inr (8, [.ref b_sc, .ref b_sp, .ref b_cp, .ref b_sn, .ref b_sl, .int 0, .int 0, .int 0]))] s.heap := hP
  have hl := lv_entry ([.ref h0, .int i_0, .int i_1, .int i_2, .int i_3, .int i_4]) (n := 6) (Nat.le_of_ble_eq_true rfl)
  rw [lg_entry_eq]
  generalize (lg_sl ([.ref h0, .int i_0, .int i_1, .int i_2, .int i_3, .int i_4]) ++ List.replicate (6 - (lg_sl ([.ref h0, .int i_0, .int i_1, .int i_2, .int i_3, .int i_4])).length) Slot.unset).toArray = ls at hl ⊢
  have hl : lv_has ls 6 [(0, .ref h0), (1, .int i_0), (2, .int i_1), (3, .int i_2), (4, .int i_3), (5, .int i_4)] := hl
  obtain ⟨H, hHe⟩ : ∃ H : Heap, H = s.heap := ⟨_, rfl⟩
  rw [← hHe] at hP
  have hS : va_S (fun _ : Nat => False) s.heap H [] := by rw [hHe]; exact hS
  refine pw_heap hHe ?_
  refine lv_aload_n hx hb dX9_add_0 rfl (lv_at hl 0 rfl) ?_
  refine va_get (D := D) (ci := 9) (v := .ref a_now) (C := RX9) (T := TX9) (N := 14) hx hb hts (fun _ h => List.mem_cons_of_mem _ (List.mem_append_left _ (List.mem_append_right _ h))) hown hK hP 0 rfl rfl 1 (by decide) (hts (.fieldLink RX9 19 "LineCites" "now" "LLineCites$Work;") (List.mem_of_getElem? (i := 1) rfl)) (fun _ h9 => h9) rfl dX9_add_1 ?_
  refine lv_iload_n hx hb dX9_add_4 rfl (lv_at hl 1 rfl) ?_
  have hPc := hP.sub (ws' := [(a_now, .inr (8, [.ref b_sc, .ref b_sp, .ref b_cp, .ref b_sn, .ref b_sl, .int 0, .int 0, .int 0]))]) [1] rfl
  have hKc := hK.sub (tys' := []) [] rfl
  refine va_calli (va_runV (As := [.int i_0]) (rest := []) ⟨hx, hb, hml, hown, hts⟩ (c_X8_hasEdition l D a_now i_0 b_sc b_sp b_cp b_sn b_sl) (cwV 1 hts g_X9_add_X8_hasEdition rfl rfl rfl (by decide +kernel) ⟨Nat.le_of_ble_eq_true rfl, Nat.le_of_ble_eq_true rfl⟩) ⟨fun a U g mk q => by obtain ⟨q0, qP, qK⟩ := q; exact ⟨q0, qP, va_K.moved (u := U) (U := U.calling g mk a) (Vm.Alike.refl U.vm) qK⟩, va_recv hKc hPc (ci := 8) (q0 := 0) rfl rfl, fun U hU hW => ⟨rfl, by rw [hU]; exact hPc, va_K.moved hW.alike hKc⟩⟩ rfl rfl hl.1 rfl (lv_room (Nat.le_of_ble_eq_true rfl)) dX9_add_5 ⟨Nat.le_of_ble_eq_true rfl, Nat.le_of_ble_eq_true rfl⟩) hS (fun _ _ h => h.elim) (fun _ h => h.elim) (fun r1 u t H1 locs ht hvm hw hB hz1 hk1 hS => ?_)
  have hP := pw_keep hP (fun q hq => hk1 q hq (fun h => h))
  generalize H1 = H at hP hS ⊢
  refine W.widen (k := 0) (n := 0) (Nat.le_of_ble_eq_true rfl) (Nat.le_of_ble_eq_true rfl) ?_
  obtain rfl : r1 = 0 := hw
  refine lv_if_ne (tgt := 14) hx hb dX9_add_8 (by decide) (fun c2 => absurd (by decide) c2) (fun c2 => ?_)
  refine lv_ldc hx hb hown (hts (.constant RX9 88 (-1000001)) (List.mem_of_getElem? (i := 8) rfl)) dX9_add_11 ?_
  exact W.iret (v := (-1000001)) hx hb hr (fun t ht hW => ⟨⟨(-1000001), (), rfl, rfl, trivial⟩, hS.F ht⟩) hS.2.2 dX9_add_13
def w_X9_drop : List Cond := .code yX9_drop cX9_drop 3 (some .int) :: ([.fieldLink RX9 19 "LineCites" "now" "LLineCites$Work;", .methodLink RX9 156 yX8_hasStretch, .instanceMethod yX8_hasStretch, .selects RX8 yX8_hasStretch yX8_hasStretch, .initialized RX8, .code yX8_hasStretch cX8_hasStretch 3 (some .boolean), .methodLink RX8 47 yX8_stretchesOf, .instanceMethod yX8_stretchesOf, .selects RX8 yX8_stretchesOf yX8_stretchesOf, .code yX8_stretchesOf cX8_stretchesOf 2 (some .int), .methodLink RX8 43 yX8_hasEdition, .instanceMethod yX8_hasEdition, .selects RX8 yX8_hasEdition yX8_hasEdition, .code yX8_hasEdition cX8_hasEdition 2 (some .boolean), .fieldLink RX8 37 "LineCites$Work" "editions" "I", .constant RX9 88 (-1000001)] ++ wsX90 ++ wsX80)
set_option maxRecDepth 20000 in
theorem g_X9_drop_X8_hasStretch : GoodIn w_X9_drop (wsV RX9 156 RX8 yX8_hasStretch w_X8_hasStretch) := goodIn_r _ [2, 3, 4, 5, 6, 7, 8, 9, 5, 10, 11, 12, 13, 14, 15, 31, 32, 33, 34, 35, 36, 37, 38] rfl (by decide +kernel)
set_option maxHeartbeats 4000000 in
set_option maxRecDepth 100000 in
theorem c_X9_drop (l : Launch) (D : va_G) (h0 : Nat) (i_0 : Int32) (i_1 : Int32) (a_tape : Nat) (a_now : Nat) (a_draft : Nat) (a_reader : Nat) (a_acts : Nat) (a_images : Nat) (a_one : Nat) (a_other : Nat) (a_third : Nat) (a_spans : Nat) (a_back : Nat) (a_span : Nat) (a_middle : Nat) (a_reached : Nat) (b_sc : Nat) (b_sp : Nat) (b_cp : Nat) (b_sn : Nat) (b_sl : Nat) : Met l yX9_drop w_X9_drop ({ frames := 3, cells := 0, slots := 0, locals := 64 }) (va_Pc [.ref h0, .int i_0, .int i_1] (fun U => va_P D vwCl [(h0, .inr (9, [.ref a_tape, .ref a_now, .ref a_draft, .ref a_reader, .ref a_acts, .ref a_images, .ref a_one, .ref a_other, .ref a_third, .ref a_spans, .ref a_back, .ref a_span, .ref a_middle, .ref a_reached])), (a_now, .inr (8, [.ref b_sc, .ref b_sp, .ref b_cp, .ref b_sn, .ref b_sl, .int 0, .int 0, .int 0]))] U.heap ∧ va_K D vwCl [] U)) (va_Qi (fun (r : Int32) (_ : Unit) => r = (-1000001)) (fun _ _ => True) (fun _ => False)) 0 0 (fun _ => False) := by
  refine Met.ofW (cc := cX9_drop) (maxL := 3) (ret := (some .int)) (by decide) rfl ?_
  intro p e s m args below meth c s₁ B hml hv
  obtain ⟨rfl, hP, hK⟩ := hv
  have hx := B.exec
  have hb := B.bytes
  have hr := B.returns
  have hts := atoms_spec (ws := w_X9_drop) B.pre
  have hown : s.vm.findClass RX9 = some m.cls := findClass_of_methodNamed B.named
  have hlocks := B.notSynchronized
  have hS : va_S (fun _ : Nat => False) s.heap s.heap [] := va_S.rf
  have hP : va_P D vwCl [(h0, .inr (9, [.ref a_tape, .ref a_now, .ref a_draft, .ref a_reader, .ref a_acts, .ref a_images, .ref a_one, .ref a_other, .ref a_third, .ref a_spans, .ref a_back, .ref a_span, .ref a_middle, .ref a_reached])), (a_now, .inr (8, [.ref b_sc, .ref b_sp, .ref b_cp, .ref b_sn, .ref b_sl, .int 0, .int 0, .int 0]))] s.heap := hP
  have hl := lv_entry ([.ref h0, .int i_0, .int i_1]) (n := 3) (Nat.le_of_ble_eq_true rfl)
  rw [lg_entry_eq]
  generalize (lg_sl ([.ref h0, .int i_0, .int i_1]) ++ List.replicate (3 - (lg_sl ([.ref h0, .int i_0, .int i_1])).length) Slot.unset).toArray = ls at hl ⊢
  have hl : lv_has ls 3 [(0, .ref h0), (1, .int i_0), (2, .int i_1)] := hl
  obtain ⟨H, hHe⟩ : ∃ H : Heap, H = s.heap := ⟨_, rfl⟩
  rw [← hHe] at hP
  have hS : va_S (fun _ : Nat => False) s.heap H [] := by rw [hHe]; exact hS
  refine pw_heap hHe ?_
  refine lv_aload_n hx hb dX9_drop_0 rfl (lv_at hl 0 rfl) ?_
  refine va_get (D := D) (ci := 9) (v := .ref a_now) (C := RX9) (T := TX9) (N := 14) hx hb hts (fun _ h => List.mem_cons_of_mem _ (List.mem_append_left _ (List.mem_append_right _ h))) hown hK hP 0 rfl rfl 1 (by decide) (hts (.fieldLink RX9 19 "LineCites" "now" "LLineCites$Work;") (List.mem_of_getElem? (i := 1) rfl)) (fun _ h9 => h9) rfl dX9_drop_1 ?_
  refine lv_iload_n hx hb dX9_drop_4 rfl (lv_at hl 1 rfl) ?_
  refine lv_iload_n hx hb dX9_drop_5 rfl (lv_at hl 2 rfl) ?_
  have hPc := hP.sub (ws' := [(a_now, .inr (8, [.ref b_sc, .ref b_sp, .ref b_cp, .ref b_sn, .ref b_sl, .int 0, .int 0, .int 0]))]) [1] rfl
  have hKc := hK.sub (tys' := []) [] rfl
  refine va_calli (va_runV (As := [.int i_0, .int i_1]) (rest := []) ⟨hx, hb, hml, hown, hts⟩ (c_X8_hasStretch l D a_now i_0 i_1 b_sc b_sp b_cp b_sn b_sl) (cwV 2 hts g_X9_drop_X8_hasStretch rfl rfl rfl (by decide +kernel) ⟨Nat.le_of_ble_eq_true rfl, Nat.le_of_ble_eq_true rfl⟩) ⟨fun a U g mk q => by obtain ⟨q0, qP, qK⟩ := q; exact ⟨q0, qP, va_K.moved (u := U) (U := U.calling g mk a) (Vm.Alike.refl U.vm) qK⟩, va_recv hKc hPc (ci := 8) (q0 := 0) rfl rfl, fun U hU hW => ⟨rfl, by rw [hU]; exact hPc, va_K.moved hW.alike hKc⟩⟩ rfl rfl hl.1 rfl (lv_room (Nat.le_of_ble_eq_true rfl)) dX9_drop_6 ⟨Nat.le_of_ble_eq_true rfl, Nat.le_of_ble_eq_true rfl⟩) hS (fun _ _ h => h.elim) (fun _ h => h.elim) (fun r1 u t H1 locs ht hvm hw hB hz1 hk1 hS => ?_)
  have hP := pw_keep hP (fun q hq => hk1 q hq (fun h => h))
  generalize H1 = H at hP hS ⊢
  refine W.widen (k := 0) (n := 0) (Nat.le_of_ble_eq_true rfl) (Nat.le_of_ble_eq_true rfl) ?_
  obtain rfl : r1 = 0 := hw
  refine lv_if_ne (tgt := 15) hx hb dX9_drop_9 (by decide) (fun c2 => absurd (by decide) c2) (fun c2 => ?_)
  refine lv_ldc hx hb hown (hts (.constant RX9 88 (-1000001)) (List.mem_of_getElem? (i := 16) rfl)) dX9_drop_12 ?_
  exact W.iret (v := (-1000001)) hx hb hr (fun t ht hW => ⟨⟨(-1000001), (), rfl, rfl, trivial⟩, hS.F ht⟩) hS.2.2 dX9_drop_14
def w_X9_alter : List Cond := .code yX9_alter cX9_alter 10 (some .int) :: ([.fieldLink RX9 19 "LineCites" "now" "LLineCites$Work;", .methodLink RX9 156 yX8_hasStretch, .instanceMethod yX8_hasStretch, .selects RX8 yX8_hasStretch yX8_hasStretch, .initialized RX8, .code yX8_hasStretch cX8_hasStretch 3 (some .boolean), .methodLink RX8 47 yX8_stretchesOf, .instanceMethod yX8_stretchesOf, .selects RX8 yX8_stretchesOf yX8_stretchesOf, .code yX8_stretchesOf cX8_stretchesOf 2 (some .int), .methodLink RX8 43 yX8_hasEdition, .instanceMethod yX8_hasEdition, .selects RX8 yX8_hasEdition yX8_hasEdition, .code yX8_hasEdition cX8_hasEdition 2 (some .boolean), .fieldLink RX8 37 "LineCites$Work" "editions" "I", .constant RX9 88 (-1000001)] ++ wsX90 ++ wsX80)
set_option maxRecDepth 20000 in
theorem g_X9_alter_X8_hasStretch : GoodIn w_X9_alter (wsV RX9 156 RX8 yX8_hasStretch w_X8_hasStretch) := goodIn_r _ [2, 3, 4, 5, 6, 7, 8, 9, 5, 10, 11, 12, 13, 14, 15, 31, 32, 33, 34, 35, 36, 37, 38] rfl (by decide +kernel)
set_option maxHeartbeats 4000000 in
set_option maxRecDepth 100000 in
theorem c_X9_alter (l : Launch) (D : va_G) (h0 : Nat) (i_0 : Int32) (i_1 : Int32) (i_2 : Int32) (i_3 : Int32) (a_tape : Nat) (a_now : Nat) (a_draft : Nat) (a_reader : Nat) (a_acts : Nat) (a_images : Nat) (a_one : Nat) (a_other : Nat) (a_third : Nat) (a_spans : Nat) (a_back : Nat) (a_span : Nat) (a_middle : Nat) (a_reached : Nat) (b_sc : Nat) (b_sp : Nat) (b_cp : Nat) (b_sn : Nat) (b_sl : Nat) : Met l yX9_alter w_X9_alter ({ frames := 3, cells := 0, slots := 0, locals := 64 }) (va_Pc [.ref h0, .int i_0, .int i_1, .int i_2, .int i_3] (fun U => va_P D vwCl [(h0, .inr (9, [.ref a_tape, .ref a_now, .ref a_draft, .ref a_reader, .ref a_acts, .ref a_images, .ref a_one, .ref a_other, .ref a_third, .ref a_spans, .ref a_back, .ref a_span, .ref a_middle, .ref a_reached])), (a_now, .inr (8, [.ref b_sc, .ref b_sp, .ref b_cp, .ref b_sn, .ref b_sl, .int 0, .int 0, .int 0]))] U.heap ∧ va_K D vwCl [] U)) (va_Qi (fun (r : Int32) (_ : Unit) => r = (-1000001)) (fun _ _ => True) (fun _ => False)) 0 0 (fun _ => False) := by
  refine Met.ofW (cc := cX9_alter) (maxL := 10) (ret := (some .int)) (by decide) rfl ?_
  intro p e s m args below meth c s₁ B hml hv
  obtain ⟨rfl, hP, hK⟩ := hv
  have hx := B.exec
  have hb := B.bytes
  have hr := B.returns
  have hts := atoms_spec (ws := w_X9_alter) B.pre
  have hown : s.vm.findClass RX9 = some m.cls := findClass_of_methodNamed B.named
  have hlocks := B.notSynchronized
  have hS : va_S (fun _ : Nat => False) s.heap s.heap [] := va_S.rf
  have hP : va_P D vwCl [(h0, .inr (9, [.ref a_tape, .ref a_now, .ref a_draft, .ref a_reader, .ref a_acts, .ref a_images, .ref a_one, .ref a_other, .ref a_third, .ref a_spans, .ref a_back, .ref a_span, .ref a_middle, .ref a_reached])), (a_now, .inr (8, [.ref b_sc, .ref b_sp, .ref b_cp, .ref b_sn, .ref b_sl, .int 0, .int 0, .int 0]))] s.heap := hP
  have hl := lv_entry ([.ref h0, .int i_0, .int i_1, .int i_2, .int i_3]) (n := 10) (Nat.le_of_ble_eq_true rfl)
  rw [lg_entry_eq]
  generalize (lg_sl ([.ref h0, .int i_0, .int i_1, .int i_2, .int i_3]) ++ List.replicate (10 - (lg_sl ([.ref h0, .int i_0, .int i_1, .int i_2, .int i_3])).length) Slot.unset).toArray = ls at hl ⊢
  have hl : lv_has ls 10 [(0, .ref h0), (1, .int i_0), (2, .int i_1), (3, .int i_2), (4, .int i_3)] := hl
  obtain ⟨H, hHe⟩ : ∃ H : Heap, H = s.heap := ⟨_, rfl⟩
  rw [← hHe] at hP
  have hS : va_S (fun _ : Nat => False) s.heap H [] := by rw [hHe]; exact hS
  refine pw_heap hHe ?_
  refine lv_aload_n hx hb dX9_alter_0 rfl (lv_at hl 0 rfl) ?_
  refine va_get (D := D) (ci := 9) (v := .ref a_now) (C := RX9) (T := TX9) (N := 14) hx hb hts (fun _ h => List.mem_cons_of_mem _ (List.mem_append_left _ (List.mem_append_right _ h))) hown hK hP 0 rfl rfl 1 (by decide) (hts (.fieldLink RX9 19 "LineCites" "now" "LLineCites$Work;") (List.mem_of_getElem? (i := 1) rfl)) (fun _ h9 => h9) rfl dX9_alter_1 ?_
  refine lv_iload_n hx hb dX9_alter_4 rfl (lv_at hl 1 rfl) ?_
  refine lv_iload_n hx hb dX9_alter_5 rfl (lv_at hl 2 rfl) ?_
  have hPc := hP.sub (ws' := [(a_now, .inr (8, [.ref b_sc, .ref b_sp, .ref b_cp, .ref b_sn, .ref b_sl, .int 0, .int 0, .int 0]))]) [1] rfl
  have hKc := hK.sub (tys' := []) [] rfl
  refine va_calli (va_runV (As := [.int i_0, .int i_1]) (rest := []) ⟨hx, hb, hml, hown, hts⟩ (c_X8_hasStretch l D a_now i_0 i_1 b_sc b_sp b_cp b_sn b_sl) (cwV 2 hts g_X9_alter_X8_hasStretch rfl rfl rfl (by decide +kernel) ⟨Nat.le_of_ble_eq_true rfl, Nat.le_of_ble_eq_true rfl⟩) ⟨fun a U g mk q => by obtain ⟨q0, qP, qK⟩ := q; exact ⟨q0, qP, va_K.moved (u := U) (U := U.calling g mk a) (Vm.Alike.refl U.vm) qK⟩, va_recv hKc hPc (ci := 8) (q0 := 0) rfl rfl, fun U hU hW => ⟨rfl, by rw [hU]; exact hPc, va_K.moved hW.alike hKc⟩⟩ rfl rfl hl.1 rfl (lv_room (Nat.le_of_ble_eq_true rfl)) dX9_alter_6 ⟨Nat.le_of_ble_eq_true rfl, Nat.le_of_ble_eq_true rfl⟩) hS (fun _ _ h => h.elim) (fun _ h => h.elim) (fun r1 u t H1 locs ht hvm hw hB hz1 hk1 hS => ?_)
  have hP := pw_keep hP (fun q hq => hk1 q hq (fun h => h))
  generalize H1 = H at hP hS ⊢
  refine W.widen (k := 0) (n := 0) (Nat.le_of_ble_eq_true rfl) (Nat.le_of_ble_eq_true rfl) ?_
  obtain rfl : r1 = 0 := hw
  refine lv_if_eq (tgt := 21) hx hb dX9_alter_9 (by decide) (fun c2 => ?_) (fun c2 => absurd (by decide) c2)
  refine lv_ldc hx hb hown (hts (.constant RX9 88 (-1000001)) (List.mem_of_getElem? (i := 16) rfl)) dX9_alter_21 ?_
  exact W.iret (v := (-1000001)) hx hb hr (fun t ht hW => ⟨⟨(-1000001), (), rfl, rfl, trivial⟩, hS.F ht⟩) hS.2.2 dX9_alter_23
def w_X9_cite : List Cond := .code yX9_cite cX9_cite 6 (some .int) :: ([.constant RX9 88 (-1000001), .fieldLink RX9 19 "LineCites" "now" "LLineCites$Work;", .methodLink RX9 138 yX8_hasEdition, .instanceMethod yX8_hasEdition, .selects RX8 yX8_hasEdition yX8_hasEdition, .initialized RX8, .code yX8_hasEdition cX8_hasEdition 2 (some .boolean), .fieldLink RX8 37 "LineCites$Work" "editions" "I"] ++ wsX90 ++ wsX80)
set_option maxRecDepth 20000 in
theorem g_X9_cite_X8_hasEdition : GoodIn w_X9_cite (wsV RX9 138 RX8 yX8_hasEdition w_X8_hasEdition) := goodIn_r _ [3, 4, 5, 6, 7, 8, 23, 24, 25, 26, 27, 28, 29, 30] rfl (by decide +kernel)
set_option maxHeartbeats 4000000 in
set_option maxRecDepth 100000 in
theorem c_X9_cite (l : Launch) (D : va_G) (h0 : Nat) (i_0 : Int32) (i_1 : Int32) (i_2 : Int32) (i_3 : Int32) (i_4 : Int32) (a_tape : Nat) (a_now : Nat) (a_draft : Nat) (a_reader : Nat) (a_acts : Nat) (a_images : Nat) (a_one : Nat) (a_other : Nat) (a_third : Nat) (a_spans : Nat) (a_back : Nat) (a_span : Nat) (a_middle : Nat) (a_reached : Nat) (b_sc : Nat) (b_sp : Nat) (b_cp : Nat) (b_sn : Nat) (b_sl : Nat) : Met l yX9_cite w_X9_cite ({ frames := 1, cells := 0, slots := 0, locals := 21 }) (va_Pc [.ref h0, .int i_0, .int i_1, .int i_2, .int i_3, .int i_4] (fun U => va_P D vwCl [(h0, .inr (9, [.ref a_tape, .ref a_now, .ref a_draft, .ref a_reader, .ref a_acts, .ref a_images, .ref a_one, .ref a_other, .ref a_third, .ref a_spans, .ref a_back, .ref a_span, .ref a_middle, .ref a_reached])), (a_now, .inr (8, [.ref b_sc, .ref b_sp, .ref b_cp, .ref b_sn, .ref b_sl, .int 0, .int 0, .int 0]))] U.heap ∧ va_K D vwCl [] U)) (va_Qi (fun (r : Int32) (_ : Unit) => r = (-1000001)) (fun _ _ => True) (fun _ => False)) 0 0 (fun _ => False) := by
  refine Met.ofW (cc := cX9_cite) (maxL := 6) (ret := (some .int)) (by decide) rfl ?_
  intro p e s m args below meth c s₁ B hml hv
  obtain ⟨rfl, hP, hK⟩ := hv
  have hx := B.exec
  have hb := B.bytes
  have hr := B.returns
  have hts := atoms_spec (ws := w_X9_cite) B.pre
  have hown : s.vm.findClass RX9 = some m.cls := findClass_of_methodNamed B.named
  have hlocks := B.notSynchronized
  have hS : va_S (fun _ : Nat => False) s.heap s.heap [] := va_S.rf
  have hP : va_P D vwCl [(h0, .inr (9, [.ref a_tape, .ref a_now, .ref a_draft, .ref a_reader, .ref a_acts, .ref a_images, .ref a_one, .ref a_other, .ref a_third, .ref a_spans, .ref a_back, .ref a_span, .ref a_middle, .ref a_reached])), (a_now, .inr (8, [.ref b_sc, .ref b_sp, .ref b_cp, .ref b_sn, .ref b_sl, .int 0, .int 0, .int 0]))] s.heap := hP
  have hl := lv_entry ([.ref h0, .int i_0, .int i_1, .int i_2, .int i_3, .int i_4]) (n := 6) (Nat.le_of_ble_eq_true rfl)
  rw [lg_entry_eq]
  generalize (lg_sl ([.ref h0, .int i_0, .int i_1, .int i_2, .int i_3, .int i_4]) ++ List.replicate (6 - (lg_sl ([.ref h0, .int i_0, .int i_1, .int i_2, .int i_3, .int i_4])).length) Slot.unset).toArray = ls at hl ⊢
  have hl : lv_has ls 6 [(0, .ref h0), (1, .int i_0), (2, .int i_1), (3, .int i_2), (4, .int i_3), (5, .int i_4)] := hl
  obtain ⟨H, hHe⟩ : ∃ H : Heap, H = s.heap := ⟨_, rfl⟩
  rw [← hHe] at hP
  have hS : va_S (fun _ : Nat => False) s.heap H [] := by rw [hHe]; exact hS
  refine pw_heap hHe ?_
  refine lv_iload_n hx hb dX9_cite_0 rfl (lv_at hl 1 rfl) ?_
  refine lv_if_lt (tgt := 21) hx hb dX9_cite_1 (by decide) (fun c1 => ?_) (fun c1 => ?_)
  · have nc1 : i_0.toInt < 0 := pw_lt c1 rfl (by decide)
    refine lv_ldc hx hb hown (hts (.constant RX9 88 (-1000001)) (List.mem_of_getElem? (i := 1) rfl)) dX9_cite_21 ?_
    exact W.iret (v := (-1000001)) hx hb hr (fun t ht hW => ⟨⟨(-1000001), (), rfl, rfl, trivial⟩, hS.F ht⟩) hS.2.2 dX9_cite_23
  · have nc1 : 0 ≤ i_0.toInt := pw_nlt c1 rfl (by decide)
    refine lv_iload_n hx hb dX9_cite_4 rfl (lv_at hl 1 rfl) ?_
    refine lv_bipush (v := 8) hx hb dX9_cite_5 (by decide) ?_
    refine lv_icmp_ge (tgt := 21) hx hb dX9_cite_7 (by decide) (fun c2 => ?_) (fun c2 => ?_)
    · have nc2 : 8 ≤ i_0.toInt := pw_le c2 (by decide) rfl
      refine lv_ldc hx hb hown (hts (.constant RX9 88 (-1000001)) (List.mem_of_getElem? (i := 1) rfl)) dX9_cite_21 ?_
      exact W.iret (v := (-1000001)) hx hb hr (fun t ht hW => ⟨⟨(-1000001), (), rfl, rfl, trivial⟩, hS.F ht⟩) hS.2.2 dX9_cite_23
    · have nc2 : i_0.toInt < 8 := pw_nle c2 (by decide) rfl
      refine lv_aload_n hx hb dX9_cite_10 rfl (lv_at hl 0 rfl) ?_
      refine va_get (D := D) (ci := 9) (v := .ref a_now) (C := RX9) (T := TX9) (N := 14) hx hb hts (fun _ h => List.mem_cons_of_mem _ (List.mem_append_left _ (List.mem_append_right _ h))) hown hK hP 0 rfl rfl 1 (by decide) (hts (.fieldLink RX9 19 "LineCites" "now" "LLineCites$Work;") (List.mem_of_getElem? (i := 2) rfl)) (fun _ h9 => h9) rfl dX9_cite_11 ?_
      refine lv_iload_n hx hb dX9_cite_14 rfl (lv_at hl 2 rfl) ?_
      have hPc := hP.sub (ws' := [(a_now, .inr (8, [.ref b_sc, .ref b_sp, .ref b_cp, .ref b_sn, .ref b_sl, .int 0, .int 0, .int 0]))]) [1] rfl
      have hKc := hK.sub (tys' := []) [] rfl
      refine va_calli (va_runV (As := [.int i_1]) (rest := []) ⟨hx, hb, hml, hown, hts⟩ (c_X8_hasEdition l D a_now i_1 b_sc b_sp b_cp b_sn b_sl) (cwV 1 hts g_X9_cite_X8_hasEdition rfl rfl rfl (by decide +kernel) ⟨Nat.le_of_ble_eq_true rfl, Nat.le_of_ble_eq_true rfl⟩) ⟨fun a U g mk q => by obtain ⟨q0, qP, qK⟩ := q; exact ⟨q0, qP, va_K.moved (u := U) (U := U.calling g mk a) (Vm.Alike.refl U.vm) qK⟩, va_recv hKc hPc (ci := 8) (q0 := 0) rfl rfl, fun U hU hW => ⟨rfl, by rw [hU]; exact hPc, va_K.moved hW.alike hKc⟩⟩ rfl rfl hl.1 rfl (lv_room (Nat.le_of_ble_eq_true rfl)) dX9_cite_15 ⟨Nat.le_of_ble_eq_true rfl, Nat.le_of_ble_eq_true rfl⟩) hS (fun _ _ h => h.elim) (fun _ h => h.elim) (fun r3 u t H1 locs ht hvm hw hB hz1 hk1 hS => ?_)
      have hP := pw_keep hP (fun q hq => hk1 q hq (fun h => h))
      generalize H1 = H at hP hS ⊢
      refine W.widen (k := 0) (n := 0) (Nat.le_of_ble_eq_true rfl) (Nat.le_of_ble_eq_true rfl) ?_
      obtain rfl : r3 = 0 := hw
      refine lv_if_ne (tgt := 24) hx hb dX9_cite_18 (by decide) (fun c4 => absurd (by decide) c4) (fun c4 => ?_)
      refine lv_ldc hx hb hown (hts (.constant RX9 88 (-1000001)) (List.mem_of_getElem? (i := 1) rfl)) dX9_cite_21 ?_
      exact W.iret (v := (-1000001)) hx hb hr (fun t ht hW => ⟨⟨(-1000001), (), rfl, rfl, trivial⟩, hS.F ht⟩) hS.2.2 dX9_cite_23
def w_X9_see : List Cond := .code yX9_see cX9_see 3 (some .int) :: ([.methodLink RX9 172 yX9_isNumber, .static yX9_isNumber, .initialized RX9, .code yX9_isNumber cX9_isNumber 1 (some .boolean), .constant RX9 88 (-1000001), .fieldLink RX9 19 "LineCites" "now" "LLineCites$Work;", .methodLink RX9 191 yX8_hasLine, .instanceMethod yX8_hasLine, .selects RX8 yX8_hasLine yX8_hasLine, .initialized RX8, .code yX8_hasLine cX8_hasLine 2 (some .boolean), .fieldLink RX8 33 "LineCites$Work" "lines" "I"] ++ wsX90 ++ wsX80)
set_option maxRecDepth 20000 in
theorem g_X9_see_X9_isNumber : GoodIn w_X9_see (wsS RX9 172 yX9_isNumber w_X9_isNumber) := goodIn_r _ [1, 2, 3, 4] rfl (by decide +kernel)
set_option maxRecDepth 20000 in
theorem g_X9_see_X8_hasLine : GoodIn w_X9_see (wsV RX9 191 RX8 yX8_hasLine w_X8_hasLine) := goodIn_r _ [7, 8, 9, 10, 11, 12, 27, 28, 29, 30, 31, 32, 33, 34] rfl (by decide +kernel)
set_option maxHeartbeats 4000000 in
set_option maxRecDepth 100000 in
theorem c_X9_see (l : Launch) (D : va_G) (h0 : Nat) (i_0 : Int32) (i_1 : Int32) (a_tape : Nat) (a_now : Nat) (a_draft : Nat) (a_reader : Nat) (a_acts : Nat) (a_images : Nat) (a_one : Nat) (a_other : Nat) (a_third : Nat) (a_spans : Nat) (a_back : Nat) (a_span : Nat) (a_middle : Nat) (a_reached : Nat) (b_sc : Nat) (b_sp : Nat) (b_cp : Nat) (b_sn : Nat) (b_sl : Nat) : Met l yX9_see w_X9_see ({ frames := 1, cells := 0, slots := 0, locals := 21 }) (va_Pc [.ref h0, .int i_0, .int i_1] (fun U => va_P D vwCl [(h0, .inr (9, [.ref a_tape, .ref a_now, .ref a_draft, .ref a_reader, .ref a_acts, .ref a_images, .ref a_one, .ref a_other, .ref a_third, .ref a_spans, .ref a_back, .ref a_span, .ref a_middle, .ref a_reached])), (a_now, .inr (8, [.ref b_sc, .ref b_sp, .ref b_cp, .ref b_sn, .ref b_sl, .int 0, .int 0, .int 0]))] U.heap ∧ va_K D vwCl [] U)) (va_Qi (fun (r : Int32) (_ : Unit) => r = (-1000001)) (fun _ _ => True) (fun _ => False)) 0 0 (fun _ => False) := by
  refine Met.ofW (cc := cX9_see) (maxL := 3) (ret := (some .int)) (by decide) rfl ?_
  intro p e s m args below meth c s₁ B hml hv
  obtain ⟨rfl, hP, hK⟩ := hv
  have hx := B.exec
  have hb := B.bytes
  have hr := B.returns
  have hts := atoms_spec (ws := w_X9_see) B.pre
  have hown : s.vm.findClass RX9 = some m.cls := findClass_of_methodNamed B.named
  have hlocks := B.notSynchronized
  have hS : va_S (fun _ : Nat => False) s.heap s.heap [] := va_S.rf
  have hP : va_P D vwCl [(h0, .inr (9, [.ref a_tape, .ref a_now, .ref a_draft, .ref a_reader, .ref a_acts, .ref a_images, .ref a_one, .ref a_other, .ref a_third, .ref a_spans, .ref a_back, .ref a_span, .ref a_middle, .ref a_reached])), (a_now, .inr (8, [.ref b_sc, .ref b_sp, .ref b_cp, .ref b_sn, .ref b_sl, .int 0, .int 0, .int 0]))] s.heap := hP
  have hl := lv_entry ([.ref h0, .int i_0, .int i_1]) (n := 3) (Nat.le_of_ble_eq_true rfl)
  rw [lg_entry_eq]
  generalize (lg_sl ([.ref h0, .int i_0, .int i_1]) ++ List.replicate (3 - (lg_sl ([.ref h0, .int i_0, .int i_1])).length) Slot.unset).toArray = ls at hl ⊢
  have hl : lv_has ls 3 [(0, .ref h0), (1, .int i_0), (2, .int i_1)] := hl
  obtain ⟨H, hHe⟩ : ∃ H : Heap, H = s.heap := ⟨_, rfl⟩
  rw [← hHe] at hP
  have hS : va_S (fun _ : Nat => False) s.heap H [] := by rw [hHe]; exact hS
  refine pw_heap hHe ?_
  refine lv_iload_n hx hb dX9_see_0 rfl (lv_at hl 1 rfl) ?_
  have hPc := hP.sub (ws' := []) [] rfl
  have hKc := hK.sub (tys' := []) [] rfl
  refine va_calli (va_runS (As := [.int i_0]) (rest := []) ⟨hx, hb, hml, hown, hts⟩ (c_X9_isNumber l D i_0) (cwS 1 hts g_X9_see_X9_isNumber rfl rfl rfl (by decide +kernel) ⟨Nat.le_of_ble_eq_true rfl, Nat.le_of_ble_eq_true rfl⟩) ⟨fun a U g mk q => by obtain ⟨q0, qP, qK⟩ := q; exact ⟨q0, qP, va_K.moved (u := U) (U := U.calling g mk a) (Vm.Alike.refl U.vm) qK⟩, fun U hU hW => ⟨rfl, by rw [hU]; exact hPc, va_K.moved hW.alike hKc⟩⟩ rfl rfl hl.1 rfl (lv_room (Nat.le_of_ble_eq_true rfl)) dX9_see_1 ⟨Nat.le_of_ble_eq_true rfl, Nat.le_of_ble_eq_true rfl⟩) hS (fun _ _ h => h.elim) (fun _ h => h.elim) (fun r1 u t H1 locs ht hvm hw hB hz1 hk1 hS => ?_)
  have hP := pw_keep hP (fun q hq => hk1 q hq (fun h => h))
  generalize H1 = H at hP hS ⊢
  refine W.widen (k := 0) (n := 0) (Nat.le_of_ble_eq_true rfl) (Nat.le_of_ble_eq_true rfl) ?_
  refine lv_if_eq (tgt := 18) hx hb dX9_see_4 (by decide) (fun c2 => ?_) (fun c2 => ?_)
  · have nc2 : r1.toInt = 0 := pw_eq c2 rfl (by decide)
    refine lv_ldc hx hb hown (hts (.constant RX9 88 (-1000001)) (List.mem_of_getElem? (i := 5) rfl)) dX9_see_18 ?_
    exact W.iret (v := (-1000001)) hx hb hr (fun t ht hW => ⟨⟨(-1000001), (), rfl, rfl, trivial⟩, hS.F ht⟩) hS.2.2 dX9_see_20
  · have nc2 : r1.toInt ≠ 0 := pw_ne c2 rfl (by decide)
    refine lv_aload_n hx hb dX9_see_7 rfl (lv_at hl 0 rfl) ?_
    refine va_get (D := D) (ci := 9) (v := .ref a_now) (C := RX9) (T := TX9) (N := 14) hx hb hts (fun _ h => List.mem_cons_of_mem _ (List.mem_append_left _ (List.mem_append_right _ h))) hown hK hP 0 rfl rfl 1 (by decide) (hts (.fieldLink RX9 19 "LineCites" "now" "LLineCites$Work;") (List.mem_of_getElem? (i := 6) rfl)) (fun _ h9 => h9) rfl dX9_see_8 ?_
    refine lv_iload_n hx hb dX9_see_11 rfl (lv_at hl 2 rfl) ?_
    have hPc := hP.sub (ws' := [(a_now, .inr (8, [.ref b_sc, .ref b_sp, .ref b_cp, .ref b_sn, .ref b_sl, .int 0, .int 0, .int 0]))]) [1] rfl
    have hKc := hK.sub (tys' := []) [] rfl
    refine va_calli (va_runV (As := [.int i_1]) (rest := []) ⟨hx, hb, hml, hown, hts⟩ (c_X8_hasLine l D a_now i_1 b_sc b_sp b_cp b_sn b_sl) (cwV 1 hts g_X9_see_X8_hasLine rfl rfl rfl (by decide +kernel) ⟨Nat.le_of_ble_eq_true rfl, Nat.le_of_ble_eq_true rfl⟩) ⟨fun a U g mk q => by obtain ⟨q0, qP, qK⟩ := q; exact ⟨q0, qP, va_K.moved (u := U) (U := U.calling g mk a) (Vm.Alike.refl U.vm) qK⟩, va_recv hKc hPc (ci := 8) (q0 := 0) rfl rfl, fun U hU hW => ⟨rfl, by rw [hU]; exact hPc, va_K.moved hW.alike hKc⟩⟩ rfl rfl hl.1 rfl (lv_room (Nat.le_of_ble_eq_true rfl)) dX9_see_12 ⟨Nat.le_of_ble_eq_true rfl, Nat.le_of_ble_eq_true rfl⟩) hS (fun _ _ h => h.elim) (fun _ h => h.elim) (fun r3 u t H1 locs ht hvm hw hB hz1 hk1 hS => ?_)
    have hP := pw_keep hP (fun q hq => hk1 q hq (fun h => h))
    generalize H1 = H at hP hS ⊢
    refine W.widen (k := 0) (n := 0) (Nat.le_of_ble_eq_true rfl) (Nat.le_of_ble_eq_true rfl) ?_
    obtain rfl : r3 = 0 := hw
    refine lv_if_ne (tgt := 21) hx hb dX9_see_15 (by decide) (fun c4 => absurd (by decide) c4) (fun c4 => ?_)
    refine lv_ldc hx hb hown (hts (.constant RX9 88 (-1000001)) (List.mem_of_getElem? (i := 5) rfl)) dX9_see_18 ?_
    exact W.iret (v := (-1000001)) hx hb hr (fun t ht hW => ⟨⟨(-1000001), (), rfl, rfl, trivial⟩, hS.F ht⟩) hS.2.2 dX9_see_20
def w_X9_stretch : List Cond := .code yX9_stretch cX9_stretch 4 (some .int) :: ([.fieldLink RX9 19 "LineCites" "now" "LLineCites$Work;", .methodLink RX9 156 yX8_hasStretch, .instanceMethod yX8_hasStretch, .selects RX8 yX8_hasStretch yX8_hasStretch, .initialized RX8, .code yX8_hasStretch cX8_hasStretch 3 (some .boolean), .methodLink RX8 47 yX8_stretchesOf, .instanceMethod yX8_stretchesOf, .selects RX8 yX8_stretchesOf yX8_stretchesOf, .code yX8_stretchesOf cX8_stretchesOf 2 (some .int), .methodLink RX8 43 yX8_hasEdition, .instanceMethod yX8_hasEdition, .selects RX8 yX8_hasEdition yX8_hasEdition, .code yX8_hasEdition cX8_hasEdition 2 (some .boolean), .fieldLink RX8 37 "LineCites$Work" "editions" "I", .constant RX9 88 (-1000001)] ++ wsX90 ++ wsX80)
set_option maxRecDepth 20000 in
theorem g_X9_stretch_X8_hasStretch : GoodIn w_X9_stretch (wsV RX9 156 RX8 yX8_hasStretch w_X8_hasStretch) := goodIn_r _ [2, 3, 4, 5, 6, 7, 8, 9, 5, 10, 11, 12, 13, 14, 15, 31, 32, 33, 34, 35, 36, 37, 38] rfl (by decide +kernel)
set_option maxHeartbeats 4000000 in
set_option maxRecDepth 100000 in
theorem c_X9_stretch (l : Launch) (D : va_G) (h0 : Nat) (i_0 : Int32) (i_1 : Int32) (i_2 : Int32) (a_tape : Nat) (a_now : Nat) (a_draft : Nat) (a_reader : Nat) (a_acts : Nat) (a_images : Nat) (a_one : Nat) (a_other : Nat) (a_third : Nat) (a_spans : Nat) (a_back : Nat) (a_span : Nat) (a_middle : Nat) (a_reached : Nat) (b_sc : Nat) (b_sp : Nat) (b_cp : Nat) (b_sn : Nat) (b_sl : Nat) : Met l yX9_stretch w_X9_stretch ({ frames := 3, cells := 0, slots := 0, locals := 64 }) (va_Pc [.ref h0, .int i_0, .int i_1, .int i_2] (fun U => va_P D vwCl [(h0, .inr (9, [.ref a_tape, .ref a_now, .ref a_draft, .ref a_reader, .ref a_acts, .ref a_images, .ref a_one, .ref a_other, .ref a_third, .ref a_spans, .ref a_back, .ref a_span, .ref a_middle, .ref a_reached])), (a_now, .inr (8, [.ref b_sc, .ref b_sp, .ref b_cp, .ref b_sn, .ref b_sl, .int 0, .int 0, .int 0]))] U.heap ∧ va_K D vwCl [] U)) (va_Qi (fun (r : Int32) (_ : Unit) => r = (-1000001)) (fun _ _ => True) (fun _ => False)) 0 0 (fun _ => False) := by
  refine Met.ofW (cc := cX9_stretch) (maxL := 4) (ret := (some .int)) (by decide) rfl ?_
  intro p e s m args below meth c s₁ B hml hv
  obtain ⟨rfl, hP, hK⟩ := hv
  have hx := B.exec
  have hb := B.bytes
  have hr := B.returns
  have hts := atoms_spec (ws := w_X9_stretch) B.pre
  have hown : s.vm.findClass RX9 = some m.cls := findClass_of_methodNamed B.named
  have hlocks := B.notSynchronized
  have hS : va_S (fun _ : Nat => False) s.heap s.heap [] := va_S.rf
  have hP : va_P D vwCl [(h0, .inr (9, [.ref a_tape, .ref a_now, .ref a_draft, .ref a_reader, .ref a_acts, .ref a_images, .ref a_one, .ref a_other, .ref a_third, .ref a_spans, .ref a_back, .ref a_span, .ref a_middle, .ref a_reached])), (a_now, .inr (8, [.ref b_sc, .ref b_sp, .ref b_cp, .ref b_sn, .ref b_sl, .int 0, .int 0, .int 0]))] s.heap := hP
  have hl := lv_entry ([.ref h0, .int i_0, .int i_1, .int i_2]) (n := 4) (Nat.le_of_ble_eq_true rfl)
  rw [lg_entry_eq]
  generalize (lg_sl ([.ref h0, .int i_0, .int i_1, .int i_2]) ++ List.replicate (4 - (lg_sl ([.ref h0, .int i_0, .int i_1, .int i_2])).length) Slot.unset).toArray = ls at hl ⊢
  have hl : lv_has ls 4 [(0, .ref h0), (1, .int i_0), (2, .int i_1), (3, .int i_2)] := hl
  obtain ⟨H, hHe⟩ : ∃ H : Heap, H = s.heap := ⟨_, rfl⟩
  rw [← hHe] at hP
  have hS : va_S (fun _ : Nat => False) s.heap H [] := by rw [hHe]; exact hS
  refine pw_heap hHe ?_
  refine lv_aload_n hx hb dX9_stretch_0 rfl (lv_at hl 0 rfl) ?_
  refine va_get (D := D) (ci := 9) (v := .ref a_now) (C := RX9) (T := TX9) (N := 14) hx hb hts (fun _ h => List.mem_cons_of_mem _ (List.mem_append_left _ (List.mem_append_right _ h))) hown hK hP 0 rfl rfl 1 (by decide) (hts (.fieldLink RX9 19 "LineCites" "now" "LLineCites$Work;") (List.mem_of_getElem? (i := 1) rfl)) (fun _ h9 => h9) rfl dX9_stretch_1 ?_
  refine lv_iload_n hx hb dX9_stretch_4 rfl (lv_at hl 1 rfl) ?_
  refine lv_iload_n hx hb dX9_stretch_5 rfl (lv_at hl 2 rfl) ?_
  have hPc := hP.sub (ws' := [(a_now, .inr (8, [.ref b_sc, .ref b_sp, .ref b_cp, .ref b_sn, .ref b_sl, .int 0, .int 0, .int 0]))]) [1] rfl
  have hKc := hK.sub (tys' := []) [] rfl
  refine va_calli (va_runV (As := [.int i_0, .int i_1]) (rest := []) ⟨hx, hb, hml, hown, hts⟩ (c_X8_hasStretch l D a_now i_0 i_1 b_sc b_sp b_cp b_sn b_sl) (cwV 2 hts g_X9_stretch_X8_hasStretch rfl rfl rfl (by decide +kernel) ⟨Nat.le_of_ble_eq_true rfl, Nat.le_of_ble_eq_true rfl⟩) ⟨fun a U g mk q => by obtain ⟨q0, qP, qK⟩ := q; exact ⟨q0, qP, va_K.moved (u := U) (U := U.calling g mk a) (Vm.Alike.refl U.vm) qK⟩, va_recv hKc hPc (ci := 8) (q0 := 0) rfl rfl, fun U hU hW => ⟨rfl, by rw [hU]; exact hPc, va_K.moved hW.alike hKc⟩⟩ rfl rfl hl.1 rfl (lv_room (Nat.le_of_ble_eq_true rfl)) dX9_stretch_6 ⟨Nat.le_of_ble_eq_true rfl, Nat.le_of_ble_eq_true rfl⟩) hS (fun _ _ h => h.elim) (fun _ h => h.elim) (fun r1 u t H1 locs ht hvm hw hB hz1 hk1 hS => ?_)
  have hP := pw_keep hP (fun q hq => hk1 q hq (fun h => h))
  generalize H1 = H at hP hS ⊢
  refine W.widen (k := 0) (n := 0) (Nat.le_of_ble_eq_true rfl) (Nat.le_of_ble_eq_true rfl) ?_
  obtain rfl : r1 = 0 := hw
  refine lv_if_eq (tgt := 21) hx hb dX9_stretch_9 (by decide) (fun c2 => ?_) (fun c2 => absurd (by decide) c2)
  refine lv_ldc hx hb hown (hts (.constant RX9 88 (-1000001)) (List.mem_of_getElem? (i := 16) rfl)) dX9_stretch_21 ?_
  exact W.iret (v := (-1000001)) hx hb hr (fun t ht hW => ⟨⟨(-1000001), (), rfl, rfl, trivial⟩, hS.F ht⟩) hS.2.2 dX9_stretch_23
def w_X9_as : List Cond := .code yX9_as cX9_as 4 (some .int) :: ([.fieldLink RX9 19 "LineCites" "now" "LLineCites$Work;", .methodLink RX9 156 yX8_hasStretch, .instanceMethod yX8_hasStretch, .selects RX8 yX8_hasStretch yX8_hasStretch, .initialized RX8, .code yX8_hasStretch cX8_hasStretch 3 (some .boolean), .methodLink RX8 47 yX8_stretchesOf, .instanceMethod yX8_stretchesOf, .selects RX8 yX8_stretchesOf yX8_stretchesOf, .code yX8_stretchesOf cX8_stretchesOf 2 (some .int), .methodLink RX8 43 yX8_hasEdition, .instanceMethod yX8_hasEdition, .selects RX8 yX8_hasEdition yX8_hasEdition, .code yX8_hasEdition cX8_hasEdition 2 (some .boolean), .fieldLink RX8 37 "LineCites$Work" "editions" "I", .constant RX9 88 (-1000001)] ++ wsX90 ++ wsX80)
set_option maxRecDepth 20000 in
theorem g_X9_as_X8_hasStretch : GoodIn w_X9_as (wsV RX9 156 RX8 yX8_hasStretch w_X8_hasStretch) := goodIn_r _ [2, 3, 4, 5, 6, 7, 8, 9, 5, 10, 11, 12, 13, 14, 15, 31, 32, 33, 34, 35, 36, 37, 38] rfl (by decide +kernel)
set_option maxHeartbeats 4000000 in
set_option maxRecDepth 100000 in
theorem c_X9_as (l : Launch) (D : va_G) (h0 : Nat) (i_0 : Int32) (i_1 : Int32) (i_2 : Int32) (a_tape : Nat) (a_now : Nat) (a_draft : Nat) (a_reader : Nat) (a_acts : Nat) (a_images : Nat) (a_one : Nat) (a_other : Nat) (a_third : Nat) (a_spans : Nat) (a_back : Nat) (a_span : Nat) (a_middle : Nat) (a_reached : Nat) (b_sc : Nat) (b_sp : Nat) (b_cp : Nat) (b_sn : Nat) (b_sl : Nat) : Met l yX9_as w_X9_as ({ frames := 3, cells := 0, slots := 0, locals := 64 }) (va_Pc [.ref h0, .int i_0, .int i_1, .int i_2] (fun U => va_P D vwCl [(h0, .inr (9, [.ref a_tape, .ref a_now, .ref a_draft, .ref a_reader, .ref a_acts, .ref a_images, .ref a_one, .ref a_other, .ref a_third, .ref a_spans, .ref a_back, .ref a_span, .ref a_middle, .ref a_reached])), (a_now, .inr (8, [.ref b_sc, .ref b_sp, .ref b_cp, .ref b_sn, .ref b_sl, .int 0, .int 0, .int 0]))] U.heap ∧ va_K D vwCl [] U)) (va_Qi (fun (r : Int32) (_ : Unit) => r = (-1000001)) (fun _ _ => True) (fun _ => False)) 0 0 (fun _ => False) := by
  refine Met.ofW (cc := cX9_as) (maxL := 4) (ret := (some .int)) (by decide) rfl ?_
  intro p e s m args below meth c s₁ B hml hv
  obtain ⟨rfl, hP, hK⟩ := hv
  have hx := B.exec
  have hb := B.bytes
  have hr := B.returns
  have hts := atoms_spec (ws := w_X9_as) B.pre
  have hown : s.vm.findClass RX9 = some m.cls := findClass_of_methodNamed B.named
  have hlocks := B.notSynchronized
  have hS : va_S (fun _ : Nat => False) s.heap s.heap [] := va_S.rf
  have hP : va_P D vwCl [(h0, .inr (9, [.ref a_tape, .ref a_now, .ref a_draft, .ref a_reader, .ref a_acts, .ref a_images, .ref a_one, .ref a_other, .ref a_third, .ref a_spans, .ref a_back, .ref a_span, .ref a_middle, .ref a_reached])), (a_now, .inr (8, [.ref b_sc, .ref b_sp, .ref b_cp, .ref b_sn, .ref b_sl, .int 0, .int 0, .int 0]))] s.heap := hP
  have hl := lv_entry ([.ref h0, .int i_0, .int i_1, .int i_2]) (n := 4) (Nat.le_of_ble_eq_true rfl)
  rw [lg_entry_eq]
  generalize (lg_sl ([.ref h0, .int i_0, .int i_1, .int i_2]) ++ List.replicate (4 - (lg_sl ([.ref h0, .int i_0, .int i_1, .int i_2])).length) Slot.unset).toArray = ls at hl ⊢
  have hl : lv_has ls 4 [(0, .ref h0), (1, .int i_0), (2, .int i_1), (3, .int i_2)] := hl
  obtain ⟨H, hHe⟩ : ∃ H : Heap, H = s.heap := ⟨_, rfl⟩
  rw [← hHe] at hP
  have hS : va_S (fun _ : Nat => False) s.heap H [] := by rw [hHe]; exact hS
  refine pw_heap hHe ?_
  refine lv_aload_n hx hb dX9_as_0 rfl (lv_at hl 0 rfl) ?_
  refine va_get (D := D) (ci := 9) (v := .ref a_now) (C := RX9) (T := TX9) (N := 14) hx hb hts (fun _ h => List.mem_cons_of_mem _ (List.mem_append_left _ (List.mem_append_right _ h))) hown hK hP 0 rfl rfl 1 (by decide) (hts (.fieldLink RX9 19 "LineCites" "now" "LLineCites$Work;") (List.mem_of_getElem? (i := 1) rfl)) (fun _ h9 => h9) rfl dX9_as_1 ?_
  refine lv_iload_n hx hb dX9_as_4 rfl (lv_at hl 1 rfl) ?_
  refine lv_iload_n hx hb dX9_as_5 rfl (lv_at hl 2 rfl) ?_
  have hPc := hP.sub (ws' := [(a_now, .inr (8, [.ref b_sc, .ref b_sp, .ref b_cp, .ref b_sn, .ref b_sl, .int 0, .int 0, .int 0]))]) [1] rfl
  have hKc := hK.sub (tys' := []) [] rfl
  refine va_calli (va_runV (As := [.int i_0, .int i_1]) (rest := []) ⟨hx, hb, hml, hown, hts⟩ (c_X8_hasStretch l D a_now i_0 i_1 b_sc b_sp b_cp b_sn b_sl) (cwV 2 hts g_X9_as_X8_hasStretch rfl rfl rfl (by decide +kernel) ⟨Nat.le_of_ble_eq_true rfl, Nat.le_of_ble_eq_true rfl⟩) ⟨fun a U g mk q => by obtain ⟨q0, qP, qK⟩ := q; exact ⟨q0, qP, va_K.moved (u := U) (U := U.calling g mk a) (Vm.Alike.refl U.vm) qK⟩, va_recv hKc hPc (ci := 8) (q0 := 0) rfl rfl, fun U hU hW => ⟨rfl, by rw [hU]; exact hPc, va_K.moved hW.alike hKc⟩⟩ rfl rfl hl.1 rfl (lv_room (Nat.le_of_ble_eq_true rfl)) dX9_as_6 ⟨Nat.le_of_ble_eq_true rfl, Nat.le_of_ble_eq_true rfl⟩) hS (fun _ _ h => h.elim) (fun _ h => h.elim) (fun r1 u t H1 locs ht hvm hw hB hz1 hk1 hS => ?_)
  have hP := pw_keep hP (fun q hq => hk1 q hq (fun h => h))
  generalize H1 = H at hP hS ⊢
  refine W.widen (k := 0) (n := 0) (Nat.le_of_ble_eq_true rfl) (Nat.le_of_ble_eq_true rfl) ?_
  obtain rfl : r1 = 0 := hw
  refine lv_if_eq (tgt := 21) hx hb dX9_as_9 (by decide) (fun c2 => ?_) (fun c2 => absurd (by decide) c2)
  refine lv_ldc hx hb hown (hts (.constant RX9 88 (-1000001)) (List.mem_of_getElem? (i := 16) rfl)) dX9_as_21 ?_
  exact W.iret (v := (-1000001)) hx hb hr (fun t ht hW => ⟨⟨(-1000001), (), rfl, rfl, trivial⟩, hS.F ht⟩) hS.2.2 dX9_as_23
def w_X9_edition : List Cond := .code yX9_edition cX9_edition 3 (some .int) :: ([.fieldLink RX9 19 "LineCites" "now" "LLineCites$Work;", .methodLink RX9 138 yX8_hasEdition, .instanceMethod yX8_hasEdition, .selects RX8 yX8_hasEdition yX8_hasEdition, .initialized RX8, .code yX8_hasEdition cX8_hasEdition 2 (some .boolean), .fieldLink RX8 37 "LineCites$Work" "editions" "I", .constant RX9 88 (-1000001)] ++ wsX90 ++ wsX80)
set_option maxRecDepth 20000 in
theorem g_X9_edition_X8_hasEdition : GoodIn w_X9_edition (wsV RX9 138 RX8 yX8_hasEdition w_X8_hasEdition) := goodIn_r _ [2, 3, 4, 5, 6, 7, 23, 24, 25, 26, 27, 28, 29, 30] rfl (by decide +kernel)
set_option maxHeartbeats 4000000 in
set_option maxRecDepth 100000 in
theorem c_X9_edition (l : Launch) (D : va_G) (h0 : Nat) (i_0 : Int32) (i_1 : Int32) (a_tape : Nat) (a_now : Nat) (a_draft : Nat) (a_reader : Nat) (a_acts : Nat) (a_images : Nat) (a_one : Nat) (a_other : Nat) (a_third : Nat) (a_spans : Nat) (a_back : Nat) (a_span : Nat) (a_middle : Nat) (a_reached : Nat) (b_sc : Nat) (b_sp : Nat) (b_cp : Nat) (b_sn : Nat) (b_sl : Nat) : Met l yX9_edition w_X9_edition ({ frames := 1, cells := 0, slots := 0, locals := 21 }) (va_Pc [.ref h0, .int i_0, .int i_1] (fun U => va_P D vwCl [(h0, .inr (9, [.ref a_tape, .ref a_now, .ref a_draft, .ref a_reader, .ref a_acts, .ref a_images, .ref a_one, .ref a_other, .ref a_third, .ref a_spans, .ref a_back, .ref a_span, .ref a_middle, .ref a_reached])), (a_now, .inr (8, [.ref b_sc, .ref b_sp, .ref b_cp, .ref b_sn, .ref b_sl, .int 0, .int 0, .int 0]))] U.heap ∧ va_K D vwCl [] U)) (va_Qi (fun (r : Int32) (_ : Unit) => r = (-1000001)) (fun _ _ => True) (fun _ => False)) 0 0 (fun _ => False) := by
  refine Met.ofW (cc := cX9_edition) (maxL := 3) (ret := (some .int)) (by decide) rfl ?_
  intro p e s m args below meth c s₁ B hml hv
  obtain ⟨rfl, hP, hK⟩ := hv
  have hx := B.exec
  have hb := B.bytes
  have hr := B.returns
  have hts := atoms_spec (ws := w_X9_edition) B.pre
  have hown : s.vm.findClass RX9 = some m.cls := findClass_of_methodNamed B.named
  have hlocks := B.notSynchronized
  have hS : va_S (fun _ : Nat => False) s.heap s.heap [] := va_S.rf
  have hP : va_P D vwCl [(h0, .inr (9, [.ref a_tape, .ref a_now, .ref a_draft, .ref a_reader, .ref a_acts, .ref a_images, .ref a_one, .ref a_other, .ref a_third, .ref a_spans, .ref a_back, .ref a_span, .ref a_middle, .ref a_reached])), (a_now, .inr (8, [.ref b_sc, .ref b_sp, .ref b_cp, .ref b_sn, .ref b_sl, .int 0, .int 0, .int 0]))] s.heap := hP
  have hl := lv_entry ([.ref h0, .int i_0, .int i_1]) (n := 3) (Nat.le_of_ble_eq_true rfl)
  rw [lg_entry_eq]
  generalize (lg_sl ([.ref h0, .int i_0, .int i_1]) ++ List.replicate (3 - (lg_sl ([.ref h0, .int i_0, .int i_1])).length) Slot.unset).toArray = ls at hl ⊢
  have hl : lv_has ls 3 [(0, .ref h0), (1, .int i_0), (2, .int i_1)] := hl
  obtain ⟨H, hHe⟩ : ∃ H : Heap, H = s.heap := ⟨_, rfl⟩
  rw [← hHe] at hP
  have hS : va_S (fun _ : Nat => False) s.heap H [] := by rw [hHe]; exact hS
  refine pw_heap hHe ?_
  refine lv_aload_n hx hb dX9_edition_0 rfl (lv_at hl 0 rfl) ?_
  refine va_get (D := D) (ci := 9) (v := .ref a_now) (C := RX9) (T := TX9) (N := 14) hx hb hts (fun _ h => List.mem_cons_of_mem _ (List.mem_append_left _ (List.mem_append_right _ h))) hown hK hP 0 rfl rfl 1 (by decide) (hts (.fieldLink RX9 19 "LineCites" "now" "LLineCites$Work;") (List.mem_of_getElem? (i := 1) rfl)) (fun _ h9 => h9) rfl dX9_edition_1 ?_
  refine lv_iload_n hx hb dX9_edition_4 rfl (lv_at hl 1 rfl) ?_
  have hPc := hP.sub (ws' := [(a_now, .inr (8, [.ref b_sc, .ref b_sp, .ref b_cp, .ref b_sn, .ref b_sl, .int 0, .int 0, .int 0]))]) [1] rfl
  have hKc := hK.sub (tys' := []) [] rfl
  refine va_calli (va_runV (As := [.int i_0]) (rest := []) ⟨hx, hb, hml, hown, hts⟩ (c_X8_hasEdition l D a_now i_0 b_sc b_sp b_cp b_sn b_sl) (cwV 1 hts g_X9_edition_X8_hasEdition rfl rfl rfl (by decide +kernel) ⟨Nat.le_of_ble_eq_true rfl, Nat.le_of_ble_eq_true rfl⟩) ⟨fun a U g mk q => by obtain ⟨q0, qP, qK⟩ := q; exact ⟨q0, qP, va_K.moved (u := U) (U := U.calling g mk a) (Vm.Alike.refl U.vm) qK⟩, va_recv hKc hPc (ci := 8) (q0 := 0) rfl rfl, fun U hU hW => ⟨rfl, by rw [hU]; exact hPc, va_K.moved hW.alike hKc⟩⟩ rfl rfl hl.1 rfl (lv_room (Nat.le_of_ble_eq_true rfl)) dX9_edition_5 ⟨Nat.le_of_ble_eq_true rfl, Nat.le_of_ble_eq_true rfl⟩) hS (fun _ _ h => h.elim) (fun _ h => h.elim) (fun r1 u t H1 locs ht hvm hw hB hz1 hk1 hS => ?_)
  have hP := pw_keep hP (fun q hq => hk1 q hq (fun h => h))
  generalize H1 = H at hP hS ⊢
  refine W.widen (k := 0) (n := 0) (Nat.le_of_ble_eq_true rfl) (Nat.le_of_ble_eq_true rfl) ?_
  obtain rfl : r1 = 0 := hw
  refine lv_if_eq (tgt := 21) hx hb dX9_edition_8 (by decide) (fun c2 => ?_) (fun c2 => absurd (by decide) c2)
  refine lv_ldc hx hb hown (hts (.constant RX9 88 (-1000001)) (List.mem_of_getElem? (i := 8) rfl)) dX9_edition_21 ?_
  exact W.iret (v := (-1000001)) hx hb hr (fun t ht hW => ⟨⟨(-1000001), (), rfl, rfl, trivial⟩, hS.F ht⟩) hS.2.2 dX9_edition_23
def w_X9_number : List Cond := .code yX9_number cX9_number 4 (some .int) :: ([.fieldLink RX9 19 "LineCites" "now" "LLineCites$Work;", .methodLink RX9 138 yX8_hasEdition, .instanceMethod yX8_hasEdition, .selects RX8 yX8_hasEdition yX8_hasEdition, .initialized RX8, .code yX8_hasEdition cX8_hasEdition 2 (some .boolean), .fieldLink RX8 37 "LineCites$Work" "editions" "I", .constant RX9 88 (-1000001)] ++ wsX90 ++ wsX80)
set_option maxRecDepth 20000 in
theorem g_X9_number_X8_hasEdition : GoodIn w_X9_number (wsV RX9 138 RX8 yX8_hasEdition w_X8_hasEdition) := goodIn_r _ [2, 3, 4, 5, 6, 7, 23, 24, 25, 26, 27, 28, 29, 30] rfl (by decide +kernel)
set_option maxHeartbeats 4000000 in
set_option maxRecDepth 100000 in
theorem c_X9_number (l : Launch) (D : va_G) (h0 : Nat) (i_0 : Int32) (i_1 : Int32) (i_2 : Int32) (a_tape : Nat) (a_now : Nat) (a_draft : Nat) (a_reader : Nat) (a_acts : Nat) (a_images : Nat) (a_one : Nat) (a_other : Nat) (a_third : Nat) (a_spans : Nat) (a_back : Nat) (a_span : Nat) (a_middle : Nat) (a_reached : Nat) (b_sc : Nat) (b_sp : Nat) (b_cp : Nat) (b_sn : Nat) (b_sl : Nat) : Met l yX9_number w_X9_number ({ frames := 1, cells := 0, slots := 0, locals := 21 }) (va_Pc [.ref h0, .int i_0, .int i_1, .int i_2] (fun U => va_P D vwCl [(h0, .inr (9, [.ref a_tape, .ref a_now, .ref a_draft, .ref a_reader, .ref a_acts, .ref a_images, .ref a_one, .ref a_other, .ref a_third, .ref a_spans, .ref a_back, .ref a_span, .ref a_middle, .ref a_reached])), (a_now, .inr (8, [.ref b_sc, .ref b_sp, .ref b_cp, .ref b_sn, .ref b_sl, .int 0, .int 0, .int 0]))] U.heap ∧ va_K D vwCl [] U)) (va_Qi (fun (r : Int32) (_ : Unit) => r = (-1000001)) (fun _ _ => True) (fun _ => False)) 0 0 (fun _ => False) := by
  refine Met.ofW (cc := cX9_number) (maxL := 4) (ret := (some .int)) (by decide) rfl ?_
  intro p e s m args below meth c s₁ B hml hv
  obtain ⟨rfl, hP, hK⟩ := hv
  have hx := B.exec
  have hb := B.bytes
  have hr := B.returns
  have hts := atoms_spec (ws := w_X9_number) B.pre
  have hown : s.vm.findClass RX9 = some m.cls := findClass_of_methodNamed B.named
  have hlocks := B.notSynchronized
  have hS : va_S (fun _ : Nat => False) s.heap s.heap [] := va_S.rf
  have hP : va_P D vwCl [(h0, .inr (9, [.ref a_tape, .ref a_now, .ref a_draft, .ref a_reader, .ref a_acts, .ref a_images, .ref a_one, .ref a_other, .ref a_third, .ref a_spans, .ref a_back, .ref a_span, .ref a_middle, .ref a_reached])), (a_now, .inr (8, [.ref b_sc, .ref b_sp, .ref b_cp, .ref b_sn, .ref b_sl, .int 0, .int 0, .int 0]))] s.heap := hP
  have hl := lv_entry ([.ref h0, .int i_0, .int i_1, .int i_2]) (n := 4) (Nat.le_of_ble_eq_true rfl)
  rw [lg_entry_eq]
  generalize (lg_sl ([.ref h0, .int i_0, .int i_1, .int i_2]) ++ List.replicate (4 - (lg_sl ([.ref h0, .int i_0, .int i_1, .int i_2])).length) Slot.unset).toArray = ls at hl ⊢
  have hl : lv_has ls 4 [(0, .ref h0), (1, .int i_0), (2, .int i_1), (3, .int i_2)] := hl
  obtain ⟨H, hHe⟩ : ∃ H : Heap, H = s.heap := ⟨_, rfl⟩
  rw [← hHe] at hP
  have hS : va_S (fun _ : Nat => False) s.heap H [] := by rw [hHe]; exact hS
  refine pw_heap hHe ?_
  refine lv_aload_n hx hb dX9_number_0 rfl (lv_at hl 0 rfl) ?_
  refine va_get (D := D) (ci := 9) (v := .ref a_now) (C := RX9) (T := TX9) (N := 14) hx hb hts (fun _ h => List.mem_cons_of_mem _ (List.mem_append_left _ (List.mem_append_right _ h))) hown hK hP 0 rfl rfl 1 (by decide) (hts (.fieldLink RX9 19 "LineCites" "now" "LLineCites$Work;") (List.mem_of_getElem? (i := 1) rfl)) (fun _ h9 => h9) rfl dX9_number_1 ?_
  refine lv_iload_n hx hb dX9_number_4 rfl (lv_at hl 1 rfl) ?_
  have hPc := hP.sub (ws' := [(a_now, .inr (8, [.ref b_sc, .ref b_sp, .ref b_cp, .ref b_sn, .ref b_sl, .int 0, .int 0, .int 0]))]) [1] rfl
  have hKc := hK.sub (tys' := []) [] rfl
  refine va_calli (va_runV (As := [.int i_0]) (rest := []) ⟨hx, hb, hml, hown, hts⟩ (c_X8_hasEdition l D a_now i_0 b_sc b_sp b_cp b_sn b_sl) (cwV 1 hts g_X9_number_X8_hasEdition rfl rfl rfl (by decide +kernel) ⟨Nat.le_of_ble_eq_true rfl, Nat.le_of_ble_eq_true rfl⟩) ⟨fun a U g mk q => by obtain ⟨q0, qP, qK⟩ := q; exact ⟨q0, qP, va_K.moved (u := U) (U := U.calling g mk a) (Vm.Alike.refl U.vm) qK⟩, va_recv hKc hPc (ci := 8) (q0 := 0) rfl rfl, fun U hU hW => ⟨rfl, by rw [hU]; exact hPc, va_K.moved hW.alike hKc⟩⟩ rfl rfl hl.1 rfl (lv_room (Nat.le_of_ble_eq_true rfl)) dX9_number_5 ⟨Nat.le_of_ble_eq_true rfl, Nat.le_of_ble_eq_true rfl⟩) hS (fun _ _ h => h.elim) (fun _ h => h.elim) (fun r1 u t H1 locs ht hvm hw hB hz1 hk1 hS => ?_)
  have hP := pw_keep hP (fun q hq => hk1 q hq (fun h => h))
  generalize H1 = H at hP hS ⊢
  refine W.widen (k := 0) (n := 0) (Nat.le_of_ble_eq_true rfl) (Nat.le_of_ble_eq_true rfl) ?_
  obtain rfl : r1 = 0 := hw
  refine lv_if_eq (tgt := 31) hx hb dX9_number_8 (by decide) (fun c2 => ?_) (fun c2 => absurd (by decide) c2)
  refine lv_ldc hx hb hown (hts (.constant RX9 88 (-1000001)) (List.mem_of_getElem? (i := 8) rfl)) dX9_number_31 ?_
  exact W.iret (v := (-1000001)) hx hb hr (fun t ht hW => ⟨⟨(-1000001), (), rfl, rfl, trivial⟩, hS.F ht⟩) hS.2.2 dX9_number_33
def w_X9_meant : List Cond := .code yX9_meant cX9_meant 4 (some .int) :: ([.fieldLink RX9 19 "LineCites" "now" "LLineCites$Work;", .methodLink RX9 138 yX8_hasEdition, .instanceMethod yX8_hasEdition, .selects RX8 yX8_hasEdition yX8_hasEdition, .initialized RX8, .code yX8_hasEdition cX8_hasEdition 2 (some .boolean), .fieldLink RX8 37 "LineCites$Work" "editions" "I", .constant RX9 88 (-1000001)] ++ wsX90 ++ wsX80)
set_option maxRecDepth 20000 in
theorem g_X9_meant_X8_hasEdition : GoodIn w_X9_meant (wsV RX9 138 RX8 yX8_hasEdition w_X8_hasEdition) := goodIn_r _ [2, 3, 4, 5, 6, 7, 23, 24, 25, 26, 27, 28, 29, 30] rfl (by decide +kernel)
set_option maxHeartbeats 4000000 in
set_option maxRecDepth 100000 in
theorem c_X9_meant (l : Launch) (D : va_G) (h0 : Nat) (i_0 : Int32) (i_1 : Int32) (i_2 : Int32) (a_tape : Nat) (a_now : Nat) (a_draft : Nat) (a_reader : Nat) (a_acts : Nat) (a_images : Nat) (a_one : Nat) (a_other : Nat) (a_third : Nat) (a_spans : Nat) (a_back : Nat) (a_span : Nat) (a_middle : Nat) (a_reached : Nat) (b_sc : Nat) (b_sp : Nat) (b_cp : Nat) (b_sn : Nat) (b_sl : Nat) : Met l yX9_meant w_X9_meant ({ frames := 1, cells := 0, slots := 0, locals := 21 }) (va_Pc [.ref h0, .int i_0, .int i_1, .int i_2] (fun U => va_P D vwCl [(h0, .inr (9, [.ref a_tape, .ref a_now, .ref a_draft, .ref a_reader, .ref a_acts, .ref a_images, .ref a_one, .ref a_other, .ref a_third, .ref a_spans, .ref a_back, .ref a_span, .ref a_middle, .ref a_reached])), (a_now, .inr (8, [.ref b_sc, .ref b_sp, .ref b_cp, .ref b_sn, .ref b_sl, .int 0, .int 0, .int 0]))] U.heap ∧ va_K D vwCl [] U)) (va_Qi (fun (r : Int32) (_ : Unit) => r = (-1000001)) (fun _ _ => True) (fun _ => False)) 0 0 (fun _ => False) := by
  refine Met.ofW (cc := cX9_meant) (maxL := 4) (ret := (some .int)) (by decide) rfl ?_
  intro p e s m args below meth c s₁ B hml hv
  obtain ⟨rfl, hP, hK⟩ := hv
  have hx := B.exec
  have hb := B.bytes
  have hr := B.returns
  have hts := atoms_spec (ws := w_X9_meant) B.pre
  have hown : s.vm.findClass RX9 = some m.cls := findClass_of_methodNamed B.named
  have hlocks := B.notSynchronized
  have hS : va_S (fun _ : Nat => False) s.heap s.heap [] := va_S.rf
  have hP : va_P D vwCl [(h0, .inr (9, [.ref a_tape, .ref a_now, .ref a_draft, .ref a_reader, .ref a_acts, .ref a_images, .ref a_one, .ref a_other, .ref a_third, .ref a_spans, .ref a_back, .ref a_span, .ref a_middle, .ref a_reached])), (a_now, .inr (8, [.ref b_sc, .ref b_sp, .ref b_cp, .ref b_sn, .ref b_sl, .int 0, .int 0, .int 0]))] s.heap := hP
  have hl := lv_entry ([.ref h0, .int i_0, .int i_1, .int i_2]) (n := 4) (Nat.le_of_ble_eq_true rfl)
  rw [lg_entry_eq]
  generalize (lg_sl ([.ref h0, .int i_0, .int i_1, .int i_2]) ++ List.replicate (4 - (lg_sl ([.ref h0, .int i_0, .int i_1, .int i_2])).length) Slot.unset).toArray = ls at hl ⊢
  have hl : lv_has ls 4 [(0, .ref h0), (1, .int i_0), (2, .int i_1), (3, .int i_2)] := hl
  obtain ⟨H, hHe⟩ : ∃ H : Heap, H = s.heap := ⟨_, rfl⟩
  rw [← hHe] at hP
  have hS : va_S (fun _ : Nat => False) s.heap H [] := by rw [hHe]; exact hS
  refine pw_heap hHe ?_
  refine lv_aload_n hx hb dX9_meant_0 rfl (lv_at hl 0 rfl) ?_
  refine va_get (D := D) (ci := 9) (v := .ref a_now) (C := RX9) (T := TX9) (N := 14) hx hb hts (fun _ h => List.mem_cons_of_mem _ (List.mem_append_left _ (List.mem_append_right _ h))) hown hK hP 0 rfl rfl 1 (by decide) (hts (.fieldLink RX9 19 "LineCites" "now" "LLineCites$Work;") (List.mem_of_getElem? (i := 1) rfl)) (fun _ h9 => h9) rfl dX9_meant_1 ?_
  refine lv_iload_n hx hb dX9_meant_4 rfl (lv_at hl 1 rfl) ?_
  have hPc := hP.sub (ws' := [(a_now, .inr (8, [.ref b_sc, .ref b_sp, .ref b_cp, .ref b_sn, .ref b_sl, .int 0, .int 0, .int 0]))]) [1] rfl
  have hKc := hK.sub (tys' := []) [] rfl
  refine va_calli (va_runV (As := [.int i_0]) (rest := []) ⟨hx, hb, hml, hown, hts⟩ (c_X8_hasEdition l D a_now i_0 b_sc b_sp b_cp b_sn b_sl) (cwV 1 hts g_X9_meant_X8_hasEdition rfl rfl rfl (by decide +kernel) ⟨Nat.le_of_ble_eq_true rfl, Nat.le_of_ble_eq_true rfl⟩) ⟨fun a U g mk q => by obtain ⟨q0, qP, qK⟩ := q; exact ⟨q0, qP, va_K.moved (u := U) (U := U.calling g mk a) (Vm.Alike.refl U.vm) qK⟩, va_recv hKc hPc (ci := 8) (q0 := 0) rfl rfl, fun U hU hW => ⟨rfl, by rw [hU]; exact hPc, va_K.moved hW.alike hKc⟩⟩ rfl rfl hl.1 rfl (lv_room (Nat.le_of_ble_eq_true rfl)) dX9_meant_5 ⟨Nat.le_of_ble_eq_true rfl, Nat.le_of_ble_eq_true rfl⟩) hS (fun _ _ h => h.elim) (fun _ h => h.elim) (fun r1 u t H1 locs ht hvm hw hB hz1 hk1 hS => ?_)
  have hP := pw_keep hP (fun q hq => hk1 q hq (fun h => h))
  generalize H1 = H at hP hS ⊢
  refine W.widen (k := 0) (n := 0) (Nat.le_of_ble_eq_true rfl) (Nat.le_of_ble_eq_true rfl) ?_
  obtain rfl : r1 = 0 := hw
  refine lv_if_eq (tgt := 18) hx hb dX9_meant_8 (by decide) (fun c2 => ?_) (fun c2 => absurd (by decide) c2)
  refine lv_ldc hx hb hown (hts (.constant RX9 88 (-1000001)) (List.mem_of_getElem? (i := 8) rfl)) dX9_meant_18 ?_
  exact W.iret (v := (-1000001)) hx hb hr (fun t ht hW => ⟨⟨(-1000001), (), rfl, rfl, trivial⟩, hS.F ht⟩) hS.2.2 dX9_meant_20
def w_X9_left : List Cond := .code yX9_left cX9_left 6 (some .int) :: ([.fieldLink RX9 19 "LineCites" "now" "LLineCites$Work;", .methodLink RX9 138 yX8_hasEdition, .instanceMethod yX8_hasEdition, .selects RX8 yX8_hasEdition yX8_hasEdition, .initialized RX8, .code yX8_hasEdition cX8_hasEdition 2 (some .boolean), .fieldLink RX8 37 "LineCites$Work" "editions" "I", .constant RX9 88 (-1000001)] ++ wsX90 ++ wsX80)
set_option maxRecDepth 20000 in
theorem g_X9_left_X8_hasEdition : GoodIn w_X9_left (wsV RX9 138 RX8 yX8_hasEdition w_X8_hasEdition) := goodIn_r _ [2, 3, 4, 5, 6, 7, 23, 24, 25, 26, 27, 28, 29, 30] rfl (by decide +kernel)
set_option maxHeartbeats 4000000 in
set_option maxRecDepth 100000 in
theorem c_X9_left (l : Launch) (D : va_G) (h0 : Nat) (i_0 : Int32) (i_1 : Int32) (i_2 : Int32) (a_tape : Nat) (a_now : Nat) (a_draft : Nat) (a_reader : Nat) (a_acts : Nat) (a_images : Nat) (a_one : Nat) (a_other : Nat) (a_third : Nat) (a_spans : Nat) (a_back : Nat) (a_span : Nat) (a_middle : Nat) (a_reached : Nat) (b_sc : Nat) (b_sp : Nat) (b_cp : Nat) (b_sn : Nat) (b_sl : Nat) : Met l yX9_left w_X9_left ({ frames := 1, cells := 0, slots := 0, locals := 21 }) (va_Pc [.ref h0, .int i_0, .int i_1, .int i_2] (fun U => va_P D vwCl [(h0, .inr (9, [.ref a_tape, .ref a_now, .ref a_draft, .ref a_reader, .ref a_acts, .ref a_images, .ref a_one, .ref a_other, .ref a_third, .ref a_spans, .ref a_back, .ref a_span, .ref a_middle, .ref a_reached])), (a_now, .inr (8, [.ref b_sc, .ref b_sp, .ref b_cp, .ref b_sn, .ref b_sl, .int 0, .int 0, .int 0]))] U.heap ∧ va_K D vwCl [] U)) (va_Qi (fun (r : Int32) (_ : Unit) => r = (-1000001)) (fun _ _ => True) (fun _ => False)) 0 0 (fun _ => False) := by
  refine Met.ofW (cc := cX9_left) (maxL := 6) (ret := (some .int)) (by decide) rfl ?_
  intro p e s m args below meth c s₁ B hml hv
  obtain ⟨rfl, hP, hK⟩ := hv
  have hx := B.exec
  have hb := B.bytes
  have hr := B.returns
  have hts := atoms_spec (ws := w_X9_left) B.pre
  have hown : s.vm.findClass RX9 = some m.cls := findClass_of_methodNamed B.named
  have hlocks := B.notSynchronized
  have hS : va_S (fun _ : Nat => False) s.heap s.heap [] := va_S.rf
  have hP : va_P D vwCl [(h0, .inr (9, [.ref a_tape, .ref a_now, .ref a_draft, .ref a_reader, .ref a_acts, .ref a_images, .ref a_one, .ref a_other, .ref a_third, .ref a_spans, .ref a_back, .ref a_span, .ref a_middle, .ref a_reached])), (a_now, .inr (8, [.ref b_sc, .ref b_sp, .ref b_cp, .ref b_sn, .ref b_sl, .int 0, .int 0, .int 0]))] s.heap := hP
  have hl := lv_entry ([.ref h0, .int i_0, .int i_1, .int i_2]) (n := 6) (Nat.le_of_ble_eq_true rfl)
  rw [lg_entry_eq]
  generalize (lg_sl ([.ref h0, .int i_0, .int i_1, .int i_2]) ++ List.replicate (6 - (lg_sl ([.ref h0, .int i_0, .int i_1, .int i_2])).length) Slot.unset).toArray = ls at hl ⊢
  have hl : lv_has ls 6 [(0, .ref h0), (1, .int i_0), (2, .int i_1), (3, .int i_2)] := hl
  obtain ⟨H, hHe⟩ : ∃ H : Heap, H = s.heap := ⟨_, rfl⟩
  rw [← hHe] at hP
  have hS : va_S (fun _ : Nat => False) s.heap H [] := by rw [hHe]; exact hS
  refine pw_heap hHe ?_
  refine lv_aload_n hx hb dX9_left_0 rfl (lv_at hl 0 rfl) ?_
  refine va_get (D := D) (ci := 9) (v := .ref a_now) (C := RX9) (T := TX9) (N := 14) hx hb hts (fun _ h => List.mem_cons_of_mem _ (List.mem_append_left _ (List.mem_append_right _ h))) hown hK hP 0 rfl rfl 1 (by decide) (hts (.fieldLink RX9 19 "LineCites" "now" "LLineCites$Work;") (List.mem_of_getElem? (i := 1) rfl)) (fun _ h9 => h9) rfl dX9_left_1 ?_
  refine lv_iload_n hx hb dX9_left_4 rfl (lv_at hl 1 rfl) ?_
  have hPc := hP.sub (ws' := [(a_now, .inr (8, [.ref b_sc, .ref b_sp, .ref b_cp, .ref b_sn, .ref b_sl, .int 0, .int 0, .int 0]))]) [1] rfl
  have hKc := hK.sub (tys' := []) [] rfl
  refine va_calli (va_runV (As := [.int i_0]) (rest := []) ⟨hx, hb, hml, hown, hts⟩ (c_X8_hasEdition l D a_now i_0 b_sc b_sp b_cp b_sn b_sl) (cwV 1 hts g_X9_left_X8_hasEdition rfl rfl rfl (by decide +kernel) ⟨Nat.le_of_ble_eq_true rfl, Nat.le_of_ble_eq_true rfl⟩) ⟨fun a U g mk q => by obtain ⟨q0, qP, qK⟩ := q; exact ⟨q0, qP, va_K.moved (u := U) (U := U.calling g mk a) (Vm.Alike.refl U.vm) qK⟩, va_recv hKc hPc (ci := 8) (q0 := 0) rfl rfl, fun U hU hW => ⟨rfl, by rw [hU]; exact hPc, va_K.moved hW.alike hKc⟩⟩ rfl rfl hl.1 rfl (lv_room (Nat.le_of_ble_eq_true rfl)) dX9_left_5 ⟨Nat.le_of_ble_eq_true rfl, Nat.le_of_ble_eq_true rfl⟩) hS (fun _ _ h => h.elim) (fun _ h => h.elim) (fun r1 u t H1 locs ht hvm hw hB hz1 hk1 hS => ?_)
  have hP := pw_keep hP (fun q hq => hk1 q hq (fun h => h))
  generalize H1 = H at hP hS ⊢
  refine W.widen (k := 0) (n := 0) (Nat.le_of_ble_eq_true rfl) (Nat.le_of_ble_eq_true rfl) ?_
  obtain rfl : r1 = 0 := hw
  refine lv_if_eq (tgt := 24) hx hb dX9_left_8 (by decide) (fun c2 => ?_) (fun c2 => absurd (by decide) c2)
  refine lv_ldc hx hb hown (hts (.constant RX9 88 (-1000001)) (List.mem_of_getElem? (i := 8) rfl)) dX9_left_24 ?_
  exact W.iret (v := (-1000001)) hx hb hr (fun t ht hW => ⟨⟨(-1000001), (), rfl, rfl, trivial⟩, hS.F ht⟩) hS.2.2 dX9_left_26
def w_X9_in : List Cond := .code yX9_in cX9_in 5 (some .int) :: ([.fieldLink RX9 19 "LineCites" "now" "LLineCites$Work;", .methodLink RX9 138 yX8_hasEdition, .instanceMethod yX8_hasEdition, .selects RX8 yX8_hasEdition yX8_hasEdition, .initialized RX8, .code yX8_hasEdition cX8_hasEdition 2 (some .boolean), .fieldLink RX8 37 "LineCites$Work" "editions" "I", .constant RX9 88 (-1000001)] ++ wsX90 ++ wsX80)
set_option maxRecDepth 20000 in
theorem g_X9_in_X8_hasEdition : GoodIn w_X9_in (wsV RX9 138 RX8 yX8_hasEdition w_X8_hasEdition) := goodIn_r _ [2, 3, 4, 5, 6, 7, 23, 24, 25, 26, 27, 28, 29, 30] rfl (by decide +kernel)
set_option maxHeartbeats 4000000 in
set_option maxRecDepth 100000 in
theorem c_X9_in (l : Launch) (D : va_G) (h0 : Nat) (i_0 : Int32) (i_1 : Int32) (i_2 : Int32) (i_3 : Int32) (a_tape : Nat) (a_now : Nat) (a_draft : Nat) (a_reader : Nat) (a_acts : Nat) (a_images : Nat) (a_one : Nat) (a_other : Nat) (a_third : Nat) (a_spans : Nat) (a_back : Nat) (a_span : Nat) (a_middle : Nat) (a_reached : Nat) (b_sc : Nat) (b_sp : Nat) (b_cp : Nat) (b_sn : Nat) (b_sl : Nat) : Met l yX9_in w_X9_in ({ frames := 1, cells := 0, slots := 0, locals := 21 }) (va_Pc [.ref h0, .int i_0, .int i_1, .int i_2, .int i_3] (fun U => va_P D vwCl [(h0, .inr (9, [.ref a_tape, .ref a_now, .ref a_draft, .ref a_reader, .ref a_acts, .ref a_images, .ref a_one, .ref a_other, .ref a_third, .ref a_spans, .ref a_back, .ref a_span, .ref a_middle, .ref a_reached])), (a_now, .inr (8, [.ref b_sc, .ref b_sp, .ref b_cp, .ref b_sn, .ref b_sl, .int 0, .int 0, .int 0]))] U.heap ∧ va_K D vwCl [] U)) (va_Qi (fun (r : Int32) (_ : Unit) => r = (-1000001)) (fun _ _ => True) (fun _ => False)) 0 0 (fun _ => False) := by
  refine Met.ofW (cc := cX9_in) (maxL := 5) (ret := (some .int)) (by decide) rfl ?_
  intro p e s m args below meth c s₁ B hml hv
  obtain ⟨rfl, hP, hK⟩ := hv
  have hx := B.exec
  have hb := B.bytes
  have hr := B.returns
  have hts := atoms_spec (ws := w_X9_in) B.pre
  have hown : s.vm.findClass RX9 = some m.cls := findClass_of_methodNamed B.named
  have hlocks := B.notSynchronized
  have hS : va_S (fun _ : Nat => False) s.heap s.heap [] := va_S.rf
  have hP : va_P D vwCl [(h0, .inr (9, [.ref a_tape, .ref a_now, .ref a_draft, .ref a_reader, .ref a_acts, .ref a_images, .ref a_one, .ref a_other, .ref a_third, .ref a_spans, .ref a_back, .ref a_span, .ref a_middle, .ref a_reached])), (a_now, .inr (8, [.ref b_sc, .ref b_sp, .ref b_cp, .ref b_sn, .ref b_sl, .int 0, .int 0, .int 0]))] s.heap := hP
  have hl := lv_entry ([.ref h0, .int i_0, .int i_1, .int i_2, .int i_3]) (n := 5) (Nat.le_of_ble_eq_true rfl)
  rw [lg_entry_eq]
  generalize (lg_sl ([.ref h0, .int i_0, .int i_1, .int i_2, .int i_3]) ++ List.replicate (5 - (lg_sl ([.ref h0, .int i_0, .int i_1, .int i_2, .int i_3])).length) Slot.unset).toArray = ls at hl ⊢
  have hl : lv_has ls 5 [(0, .ref h0), (1, .int i_0), (2, .int i_1), (3, .int i_2), (4, .int i_3)] := hl
  obtain ⟨H, hHe⟩ : ∃ H : Heap, H = s.heap := ⟨_, rfl⟩
  rw [← hHe] at hP
  have hS : va_S (fun _ : Nat => False) s.heap H [] := by rw [hHe]; exact hS
  refine pw_heap hHe ?_
  refine lv_aload_n hx hb dX9_in_0 rfl (lv_at hl 0 rfl) ?_
  refine va_get (D := D) (ci := 9) (v := .ref a_now) (C := RX9) (T := TX9) (N := 14) hx hb hts (fun _ h => List.mem_cons_of_mem _ (List.mem_append_left _ (List.mem_append_right _ h))) hown hK hP 0 rfl rfl 1 (by decide) (hts (.fieldLink RX9 19 "LineCites" "now" "LLineCites$Work;") (List.mem_of_getElem? (i := 1) rfl)) (fun _ h9 => h9) rfl dX9_in_1 ?_
  refine lv_iload_n hx hb dX9_in_4 rfl (lv_at hl 1 rfl) ?_
  have hPc := hP.sub (ws' := [(a_now, .inr (8, [.ref b_sc, .ref b_sp, .ref b_cp, .ref b_sn, .ref b_sl, .int 0, .int 0, .int 0]))]) [1] rfl
  have hKc := hK.sub (tys' := []) [] rfl
  refine va_calli (va_runV (As := [.int i_0]) (rest := []) ⟨hx, hb, hml, hown, hts⟩ (c_X8_hasEdition l D a_now i_0 b_sc b_sp b_cp b_sn b_sl) (cwV 1 hts g_X9_in_X8_hasEdition rfl rfl rfl (by decide +kernel) ⟨Nat.le_of_ble_eq_true rfl, Nat.le_of_ble_eq_true rfl⟩) ⟨fun a U g mk q => by obtain ⟨q0, qP, qK⟩ := q; exact ⟨q0, qP, va_K.moved (u := U) (U := U.calling g mk a) (Vm.Alike.refl U.vm) qK⟩, va_recv hKc hPc (ci := 8) (q0 := 0) rfl rfl, fun U hU hW => ⟨rfl, by rw [hU]; exact hPc, va_K.moved hW.alike hKc⟩⟩ rfl rfl hl.1 rfl (lv_room (Nat.le_of_ble_eq_true rfl)) dX9_in_5 ⟨Nat.le_of_ble_eq_true rfl, Nat.le_of_ble_eq_true rfl⟩) hS (fun _ _ h => h.elim) (fun _ h => h.elim) (fun r1 u t H1 locs ht hvm hw hB hz1 hk1 hS => ?_)
  have hP := pw_keep hP (fun q hq => hk1 q hq (fun h => h))
  generalize H1 = H at hP hS ⊢
  refine W.widen (k := 0) (n := 0) (Nat.le_of_ble_eq_true rfl) (Nat.le_of_ble_eq_true rfl) ?_
  obtain rfl : r1 = 0 := hw
  refine lv_if_eq (tgt := 29) hx hb dX9_in_8 (by decide) (fun c2 => ?_) (fun c2 => absurd (by decide) c2)
  refine lv_ldc hx hb hown (hts (.constant RX9 88 (-1000001)) (List.mem_of_getElem? (i := 8) rfl)) dX9_in_29 ?_
  exact W.iret (v := (-1000001)) hx hb hr (fun t ht hW => ⟨⟨(-1000001), (), rfl, rfl, trivial⟩, hS.F ht⟩) hS.2.2 dX9_in_31
def w_X9_through : List Cond := .code yX9_through cX9_through 6 (some .int) :: ([.fieldLink RX9 19 "LineCites" "now" "LLineCites$Work;", .methodLink RX9 138 yX8_hasEdition, .instanceMethod yX8_hasEdition, .selects RX8 yX8_hasEdition yX8_hasEdition, .initialized RX8, .code yX8_hasEdition cX8_hasEdition 2 (some .boolean), .fieldLink RX8 37 "LineCites$Work" "editions" "I", .constant RX9 88 (-1000001)] ++ wsX90 ++ wsX80)
set_option maxRecDepth 20000 in
theorem g_X9_through_X8_hasEdition : GoodIn w_X9_through (wsV RX9 138 RX8 yX8_hasEdition w_X8_hasEdition) := goodIn_r _ [2, 3, 4, 5, 6, 7, 23, 24, 25, 26, 27, 28, 29, 30] rfl (by decide +kernel)
set_option maxHeartbeats 4000000 in
set_option maxRecDepth 100000 in
theorem c_X9_through (l : Launch) (D : va_G) (h0 : Nat) (i_0 : Int32) (i_1 : Int32) (i_2 : Int32) (i_3 : Int32) (i_4 : Int32) (a_tape : Nat) (a_now : Nat) (a_draft : Nat) (a_reader : Nat) (a_acts : Nat) (a_images : Nat) (a_one : Nat) (a_other : Nat) (a_third : Nat) (a_spans : Nat) (a_back : Nat) (a_span : Nat) (a_middle : Nat) (a_reached : Nat) (b_sc : Nat) (b_sp : Nat) (b_cp : Nat) (b_sn : Nat) (b_sl : Nat) : Met l yX9_through w_X9_through ({ frames := 1, cells := 0, slots := 0, locals := 21 }) (va_Pc [.ref h0, .int i_0, .int i_1, .int i_2, .int i_3, .int i_4] (fun U => va_P D vwCl [(h0, .inr (9, [.ref a_tape, .ref a_now, .ref a_draft, .ref a_reader, .ref a_acts, .ref a_images, .ref a_one, .ref a_other, .ref a_third, .ref a_spans, .ref a_back, .ref a_span, .ref a_middle, .ref a_reached])), (a_now, .inr (8, [.ref b_sc, .ref b_sp, .ref b_cp, .ref b_sn, .ref b_sl, .int 0, .int 0, .int 0]))] U.heap ∧ va_K D vwCl [] U)) (va_Qi (fun (r : Int32) (_ : Unit) => r = (-1000001)) (fun _ _ => True) (fun _ => False)) 0 0 (fun _ => False) := by
  refine Met.ofW (cc := cX9_through) (maxL := 6) (ret := (some .int)) (by decide) rfl ?_
  intro p e s m args below meth c s₁ B hml hv
  obtain ⟨rfl, hP, hK⟩ := hv
  have hx := B.exec
  have hb := B.bytes
  have hr := B.returns
  have hts := atoms_spec (ws := w_X9_through) B.pre
  have hown : s.vm.findClass RX9 = some m.cls := findClass_of_methodNamed B.named
  have hlocks := B.notSynchronized
  have hS : va_S (fun _ : Nat => False) s.heap s.heap [] := va_S.rf
  have hP : va_P D vwCl [(h0, .inr (9, [.ref a_tape, .ref a_now, .ref a_draft, .ref a_reader, .ref a_acts, .ref a_images, .ref a_one, .ref a_other, .ref a_third, .ref a_spans, .ref a_back, .ref a_span, .ref a_middle, .ref a_reached])), (a_now, .inr (8, [.ref b_sc, .ref b_sp, .ref b_cp, .ref b_sn, .ref b_sl, .int 0, .int 0, .int 0]))] s.heap := hP
  have hl := lv_entry ([.ref h0, .int i_0, .int i_1, .int i_2, .int i_3, .int i_4]) (n := 6) (Nat.le_of_ble_eq_true rfl)
  rw [lg_entry_eq]
  generalize (lg_sl ([.ref h0, .int i_0, .int i_1, .int i_2, .int i_3, .int i_4]) ++ List.replicate (6 - (lg_sl ([.ref h0, .int i_0, .int i_1, .int i_2, .int i_3, .int i_4])).length) Slot.unset).toArray = ls at hl ⊢
  have hl : lv_has ls 6 [(0, .ref h0), (1, .int i_0), (2, .int i_1), (3, .int i_2), (4, .int i_3), (5, .int i_4)] := hl
  obtain ⟨H, hHe⟩ : ∃ H : Heap, H = s.heap := ⟨_, rfl⟩
  rw [← hHe] at hP
  have hS : va_S (fun _ : Nat => False) s.heap H [] := by rw [hHe]; exact hS
  refine pw_heap hHe ?_
  refine lv_aload_n hx hb dX9_through_0 rfl (lv_at hl 0 rfl) ?_
  refine va_get (D := D) (ci := 9) (v := .ref a_now) (C := RX9) (T := TX9) (N := 14) hx hb hts (fun _ h => List.mem_cons_of_mem _ (List.mem_append_left _ (List.mem_append_right _ h))) hown hK hP 0 rfl rfl 1 (by decide) (hts (.fieldLink RX9 19 "LineCites" "now" "LLineCites$Work;") (List.mem_of_getElem? (i := 1) rfl)) (fun _ h9 => h9) rfl dX9_through_1 ?_
  refine lv_iload_n hx hb dX9_through_4 rfl (lv_at hl 1 rfl) ?_
  have hPc := hP.sub (ws' := [(a_now, .inr (8, [.ref b_sc, .ref b_sp, .ref b_cp, .ref b_sn, .ref b_sl, .int 0, .int 0, .int 0]))]) [1] rfl
  have hKc := hK.sub (tys' := []) [] rfl
  refine va_calli (va_runV (As := [.int i_0]) (rest := []) ⟨hx, hb, hml, hown, hts⟩ (c_X8_hasEdition l D a_now i_0 b_sc b_sp b_cp b_sn b_sl) (cwV 1 hts g_X9_through_X8_hasEdition rfl rfl rfl (by decide +kernel) ⟨Nat.le_of_ble_eq_true rfl, Nat.le_of_ble_eq_true rfl⟩) ⟨fun a U g mk q => by obtain ⟨q0, qP, qK⟩ := q; exact ⟨q0, qP, va_K.moved (u := U) (U := U.calling g mk a) (Vm.Alike.refl U.vm) qK⟩, va_recv hKc hPc (ci := 8) (q0 := 0) rfl rfl, fun U hU hW => ⟨rfl, by rw [hU]; exact hPc, va_K.moved hW.alike hKc⟩⟩ rfl rfl hl.1 rfl (lv_room (Nat.le_of_ble_eq_true rfl)) dX9_through_5 ⟨Nat.le_of_ble_eq_true rfl, Nat.le_of_ble_eq_true rfl⟩) hS (fun _ _ h => h.elim) (fun _ h => h.elim) (fun r1 u t H1 locs ht hvm hw hB hz1 hk1 hS => ?_)
  have hP := pw_keep hP (fun q hq => hk1 q hq (fun h => h))
  generalize H1 = H at hP hS ⊢
  refine W.widen (k := 0) (n := 0) (Nat.le_of_ble_eq_true rfl) (Nat.le_of_ble_eq_true rfl) ?_
  obtain rfl : r1 = 0 := hw
  refine lv_if_eq (tgt := 34) hx hb dX9_through_8 (by decide) (fun c2 => ?_) (fun c2 => absurd (by decide) c2)
  refine lv_ldc hx hb hown (hts (.constant RX9 88 (-1000001)) (List.mem_of_getElem? (i := 8) rfl)) dX9_through_34 ?_
  exact W.iret (v := (-1000001)) hx hb hr (fun t ht hW => ⟨⟨(-1000001), (), rfl, rfl, trivial⟩, hS.F ht⟩) hS.2.2 dX9_through_36
def w_X9_shift : List Cond := .code yX9_shift cX9_shift 7 (some .int) :: ([.fieldLink RX9 19 "LineCites" "now" "LLineCites$Work;", .methodLink RX9 138 yX8_hasEdition, .instanceMethod yX8_hasEdition, .selects RX8 yX8_hasEdition yX8_hasEdition, .initialized RX8, .code yX8_hasEdition cX8_hasEdition 2 (some .boolean), .fieldLink RX8 37 "LineCites$Work" "editions" "I", .constant RX9 88 (-1000001)] ++ wsX90 ++ wsX80)
set_option maxRecDepth 20000 in
theorem g_X9_shift_X8_hasEdition : GoodIn w_X9_shift (wsV RX9 138 RX8 yX8_hasEdition w_X8_hasEdition) := goodIn_r _ [2, 3, 4, 5, 6, 7, 23, 24, 25, 26, 27, 28, 29, 30] rfl (by decide +kernel)
set_option maxHeartbeats 4000000 in
set_option maxRecDepth 100000 in
theorem c_X9_shift (l : Launch) (D : va_G) (h0 : Nat) (i_0 : Int32) (i_1 : Int32) (i_2 : Int32) (i_3 : Int32) (a_tape : Nat) (a_now : Nat) (a_draft : Nat) (a_reader : Nat) (a_acts : Nat) (a_images : Nat) (a_one : Nat) (a_other : Nat) (a_third : Nat) (a_spans : Nat) (a_back : Nat) (a_span : Nat) (a_middle : Nat) (a_reached : Nat) (b_sc : Nat) (b_sp : Nat) (b_cp : Nat) (b_sn : Nat) (b_sl : Nat) : Met l yX9_shift w_X9_shift ({ frames := 1, cells := 0, slots := 0, locals := 21 }) (va_Pc [.ref h0, .int i_0, .int i_1, .int i_2, .int i_3] (fun U => va_P D vwCl [(h0, .inr (9, [.ref a_tape, .ref a_now, .ref a_draft, .ref a_reader, .ref a_acts, .ref a_images, .ref a_one, .ref a_other, .ref a_third, .ref a_spans, .ref a_back, .ref a_span, .ref a_middle, .ref a_reached])), (a_now, .inr (8, [.ref b_sc, .ref b_sp, .ref b_cp, .ref b_sn, .ref b_sl, .int 0, .int 0, .int 0]))] U.heap ∧ va_K D vwCl [] U)) (va_Qi (fun (r : Int32) (_ : Unit) => r = (-1000001)) (fun _ _ => True) (fun _ => False)) 0 0 (fun _ => False) := by
  refine Met.ofW (cc := cX9_shift) (maxL := 7) (ret := (some .int)) (by decide) rfl ?_
  intro p e s m args below meth c s₁ B hml hv
  obtain ⟨rfl, hP, hK⟩ := hv
  have hx := B.exec
  have hb := B.bytes
  have hr := B.returns
  have hts := atoms_spec (ws := w_X9_shift) B.pre
  have hown : s.vm.findClass RX9 = some m.cls := findClass_of_methodNamed B.named
  have hlocks := B.notSynchronized
  have hS : va_S (fun _ : Nat => False) s.heap s.heap [] := va_S.rf
  have hP : va_P D vwCl [(h0, .inr (9, [.ref a_tape, .ref a_now, .ref a_draft, .ref a_reader, .ref a_acts, .ref a_images, .ref a_one, .ref a_other, .ref a_third, .ref a_spans, .ref a_back, .ref a_span, .ref a_middle, .ref a_reached])), (a_now, .inr (8, [.ref b_sc, .ref b_sp, .ref b_cp, .ref b_sn, .ref b_sl, .int 0, .int 0, .int 0]))] s.heap := hP
  have hl := lv_entry ([.ref h0, .int i_0, .int i_1, .int i_2, .int i_3]) (n := 7) (Nat.le_of_ble_eq_true rfl)
  rw [lg_entry_eq]
  generalize (lg_sl ([.ref h0, .int i_0, .int i_1, .int i_2, .int i_3]) ++ List.replicate (7 - (lg_sl ([.ref h0, .int i_0, .int i_1, .int i_2, .int i_3])).length) Slot.unset).toArray = ls at hl ⊢
  have hl : lv_has ls 7 [(0, .ref h0), (1, .int i_0), (2, .int i_1), (3, .int i_2), (4, .int i_3)] := hl
  obtain ⟨H, hHe⟩ : ∃ H : Heap, H = s.heap := ⟨_, rfl⟩
  rw [← hHe] at hP
  have hS : va_S (fun _ : Nat => False) s.heap H [] := by rw [hHe]; exact hS
  refine pw_heap hHe ?_
  refine lv_aload_n hx hb dX9_shift_0 rfl (lv_at hl 0 rfl) ?_
  refine va_get (D := D) (ci := 9) (v := .ref a_now) (C := RX9) (T := TX9) (N := 14) hx hb hts (fun _ h => List.mem_cons_of_mem _ (List.mem_append_left _ (List.mem_append_right _ h))) hown hK hP 0 rfl rfl 1 (by decide) (hts (.fieldLink RX9 19 "LineCites" "now" "LLineCites$Work;") (List.mem_of_getElem? (i := 1) rfl)) (fun _ h9 => h9) rfl dX9_shift_1 ?_
  refine lv_iload_n hx hb dX9_shift_4 rfl (lv_at hl 1 rfl) ?_
  have hPc := hP.sub (ws' := [(a_now, .inr (8, [.ref b_sc, .ref b_sp, .ref b_cp, .ref b_sn, .ref b_sl, .int 0, .int 0, .int 0]))]) [1] rfl
  have hKc := hK.sub (tys' := []) [] rfl
  refine va_calli (va_runV (As := [.int i_0]) (rest := []) ⟨hx, hb, hml, hown, hts⟩ (c_X8_hasEdition l D a_now i_0 b_sc b_sp b_cp b_sn b_sl) (cwV 1 hts g_X9_shift_X8_hasEdition rfl rfl rfl (by decide +kernel) ⟨Nat.le_of_ble_eq_true rfl, Nat.le_of_ble_eq_true rfl⟩) ⟨fun a U g mk q => by obtain ⟨q0, qP, qK⟩ := q; exact ⟨q0, qP, va_K.moved (u := U) (U := U.calling g mk a) (Vm.Alike.refl U.vm) qK⟩, va_recv hKc hPc (ci := 8) (q0 := 0) rfl rfl, fun U hU hW => ⟨rfl, by rw [hU]; exact hPc, va_K.moved hW.alike hKc⟩⟩ rfl rfl hl.1 rfl (lv_room (Nat.le_of_ble_eq_true rfl)) dX9_shift_5 ⟨Nat.le_of_ble_eq_true rfl, Nat.le_of_ble_eq_true rfl⟩) hS (fun _ _ h => h.elim) (fun _ h => h.elim) (fun r1 u t H1 locs ht hvm hw hB hz1 hk1 hS => ?_)
  have hP := pw_keep hP (fun q hq => hk1 q hq (fun h => h))
  generalize H1 = H at hP hS ⊢
  refine W.widen (k := 0) (n := 0) (Nat.le_of_ble_eq_true rfl) (Nat.le_of_ble_eq_true rfl) ?_
  obtain rfl : r1 = 0 := hw
  refine lv_if_eq (tgt := 27) hx hb dX9_shift_8 (by decide) (fun c2 => ?_) (fun c2 => absurd (by decide) c2)
  refine lv_ldc hx hb hown (hts (.constant RX9 88 (-1000001)) (List.mem_of_getElem? (i := 8) rfl)) dX9_shift_27 ?_
  exact W.iret (v := (-1000001)) hx hb hr (fun t ht hW => ⟨⟨(-1000001), (), rfl, rfl, trivial⟩, hS.F ht⟩) hS.2.2 dX9_shift_29
def w_X9_table : List Cond := .code yX9_table cX9_table 5 (some .int) :: ([.fieldLink RX9 19 "LineCites" "now" "LLineCites$Work;", .methodLink RX9 138 yX8_hasEdition, .instanceMethod yX8_hasEdition, .selects RX8 yX8_hasEdition yX8_hasEdition, .initialized RX8, .code yX8_hasEdition cX8_hasEdition 2 (some .boolean), .fieldLink RX8 37 "LineCites$Work" "editions" "I", .constant RX9 88 (-1000001)] ++ wsX90 ++ wsX80)
set_option maxRecDepth 20000 in
theorem g_X9_table_X8_hasEdition : GoodIn w_X9_table (wsV RX9 138 RX8 yX8_hasEdition w_X8_hasEdition) := goodIn_r _ [2, 3, 4, 5, 6, 7, 23, 24, 25, 26, 27, 28, 29, 30] rfl (by decide +kernel)
set_option maxHeartbeats 4000000 in
set_option maxRecDepth 100000 in
theorem c_X9_table (l : Launch) (D : va_G) (h0 : Nat) (i_0 : Int32) (i_1 : Int32) (i_2 : Int32) (a_tape : Nat) (a_now : Nat) (a_draft : Nat) (a_reader : Nat) (a_acts : Nat) (a_images : Nat) (a_one : Nat) (a_other : Nat) (a_third : Nat) (a_spans : Nat) (a_back : Nat) (a_span : Nat) (a_middle : Nat) (a_reached : Nat) (b_sc : Nat) (b_sp : Nat) (b_cp : Nat) (b_sn : Nat) (b_sl : Nat) : Met l yX9_table w_X9_table ({ frames := 1, cells := 0, slots := 0, locals := 21 }) (va_Pc [.ref h0, .int i_0, .int i_1, .int i_2] (fun U => va_P D vwCl [(h0, .inr (9, [.ref a_tape, .ref a_now, .ref a_draft, .ref a_reader, .ref a_acts, .ref a_images, .ref a_one, .ref a_other, .ref a_third, .ref a_spans, .ref a_back, .ref a_span, .ref a_middle, .ref a_reached])), (a_now, .inr (8, [.ref b_sc, .ref b_sp, .ref b_cp, .ref b_sn, .ref b_sl, .int 0, .int 0, .int 0]))] U.heap ∧ va_K D vwCl [] U)) (va_Qi (fun (r : Int32) (_ : Unit) => r = (-1000001)) (fun _ _ => True) (fun _ => False)) 0 0 (fun _ => False) := by
  refine Met.ofW (cc := cX9_table) (maxL := 5) (ret := (some .int)) (by decide) rfl ?_
  intro p e s m args below meth c s₁ B hml hv
  obtain ⟨rfl, hP, hK⟩ := hv
  have hx := B.exec
  have hb := B.bytes
  have hr := B.returns
  have hts := atoms_spec (ws := w_X9_table) B.pre
  have hown : s.vm.findClass RX9 = some m.cls := findClass_of_methodNamed B.named
  have hlocks := B.notSynchronized
  have hS : va_S (fun _ : Nat => False) s.heap s.heap [] := va_S.rf
  have hP : va_P D vwCl [(h0, .inr (9, [.ref a_tape, .ref a_now, .ref a_draft, .ref a_reader, .ref a_acts, .ref a_images, .ref a_one, .ref a_other, .ref a_third, .ref a_spans, .ref a_back, .ref a_span, .ref a_middle, .ref a_reached])), (a_now, .inr (8, [.ref b_sc, .ref b_sp, .ref b_cp, .ref b_sn, .ref b_sl, .int 0, .int 0, .int 0]))] s.heap := hP
  have hl := lv_entry ([.ref h0, .int i_0, .int i_1, .int i_2]) (n := 5) (Nat.le_of_ble_eq_true rfl)
  rw [lg_entry_eq]
  generalize (lg_sl ([.ref h0, .int i_0, .int i_1, .int i_2]) ++ List.replicate (5 - (lg_sl ([.ref h0, .int i_0, .int i_1, .int i_2])).length) Slot.unset).toArray = ls at hl ⊢
  have hl : lv_has ls 5 [(0, .ref h0), (1, .int i_0), (2, .int i_1), (3, .int i_2)] := hl
  obtain ⟨H, hHe⟩ : ∃ H : Heap, H = s.heap := ⟨_, rfl⟩
  rw [← hHe] at hP
  have hS : va_S (fun _ : Nat => False) s.heap H [] := by rw [hHe]; exact hS
  refine pw_heap hHe ?_
  refine lv_aload_n hx hb dX9_table_0 rfl (lv_at hl 0 rfl) ?_
  refine va_get (D := D) (ci := 9) (v := .ref a_now) (C := RX9) (T := TX9) (N := 14) hx hb hts (fun _ h => List.mem_cons_of_mem _ (List.mem_append_left _ (List.mem_append_right _ h))) hown hK hP 0 rfl rfl 1 (by decide) (hts (.fieldLink RX9 19 "LineCites" "now" "LLineCites$Work;") (List.mem_of_getElem? (i := 1) rfl)) (fun _ h9 => h9) rfl dX9_table_1 ?_
  refine lv_iload_n hx hb dX9_table_4 rfl (lv_at hl 1 rfl) ?_
  have hPc := hP.sub (ws' := [(a_now, .inr (8, [.ref b_sc, .ref b_sp, .ref b_cp, .ref b_sn, .ref b_sl, .int 0, .int 0, .int 0]))]) [1] rfl
  have hKc := hK.sub (tys' := []) [] rfl
  refine va_calli (va_runV (As := [.int i_0]) (rest := []) ⟨hx, hb, hml, hown, hts⟩ (c_X8_hasEdition l D a_now i_0 b_sc b_sp b_cp b_sn b_sl) (cwV 1 hts g_X9_table_X8_hasEdition rfl rfl rfl (by decide +kernel) ⟨Nat.le_of_ble_eq_true rfl, Nat.le_of_ble_eq_true rfl⟩) ⟨fun a U g mk q => by obtain ⟨q0, qP, qK⟩ := q; exact ⟨q0, qP, va_K.moved (u := U) (U := U.calling g mk a) (Vm.Alike.refl U.vm) qK⟩, va_recv hKc hPc (ci := 8) (q0 := 0) rfl rfl, fun U hU hW => ⟨rfl, by rw [hU]; exact hPc, va_K.moved hW.alike hKc⟩⟩ rfl rfl hl.1 rfl (lv_room (Nat.le_of_ble_eq_true rfl)) dX9_table_5 ⟨Nat.le_of_ble_eq_true rfl, Nat.le_of_ble_eq_true rfl⟩) hS (fun _ _ h => h.elim) (fun _ h => h.elim) (fun r1 u t H1 locs ht hvm hw hB hz1 hk1 hS => ?_)
  have hP := pw_keep hP (fun q hq => hk1 q hq (fun h => h))
  generalize H1 = H at hP hS ⊢
  refine W.widen (k := 0) (n := 0) (Nat.le_of_ble_eq_true rfl) (Nat.le_of_ble_eq_true rfl) ?_
  obtain rfl : r1 = 0 := hw
  refine lv_if_eq (tgt := 31) hx hb dX9_table_8 (by decide) (fun c2 => ?_) (fun c2 => absurd (by decide) c2)
  refine lv_ldc hx hb hown (hts (.constant RX9 88 (-1000001)) (List.mem_of_getElem? (i := 8) rfl)) dX9_table_31 ?_
  exact W.iret (v := (-1000001)) hx hb hr (fun t ht hW => ⟨⟨(-1000001), (), rfl, rfl, trivial⟩, hS.F ht⟩) hS.2.2 dX9_table_33
def w_X9_share : List Cond := .code yX9_share cX9_share 6 (some .int) :: ([.fieldLink RX9 19 "LineCites" "now" "LLineCites$Work;", .methodLink RX9 138 yX8_hasEdition, .instanceMethod yX8_hasEdition, .selects RX8 yX8_hasEdition yX8_hasEdition, .initialized RX8, .code yX8_hasEdition cX8_hasEdition 2 (some .boolean), .fieldLink RX8 37 "LineCites$Work" "editions" "I", .constant RX9 88 (-1000001)] ++ wsX90 ++ wsX80)
set_option maxRecDepth 20000 in
theorem g_X9_share_X8_hasEdition : GoodIn w_X9_share (wsV RX9 138 RX8 yX8_hasEdition w_X8_hasEdition) := goodIn_r _ [2, 3, 4, 5, 6, 7, 23, 24, 25, 26, 27, 28, 29, 30] rfl (by decide +kernel)
set_option maxHeartbeats 4000000 in
set_option maxRecDepth 100000 in
theorem c_X9_share (l : Launch) (D : va_G) (h0 : Nat) (i_0 : Int32) (i_1 : Int32) (a_tape : Nat) (a_now : Nat) (a_draft : Nat) (a_reader : Nat) (a_acts : Nat) (a_images : Nat) (a_one : Nat) (a_other : Nat) (a_third : Nat) (a_spans : Nat) (a_back : Nat) (a_span : Nat) (a_middle : Nat) (a_reached : Nat) (b_sc : Nat) (b_sp : Nat) (b_cp : Nat) (b_sn : Nat) (b_sl : Nat) : Met l yX9_share w_X9_share ({ frames := 1, cells := 0, slots := 0, locals := 21 }) (va_Pc [.ref h0, .int i_0, .int i_1] (fun U => va_P D vwCl [(h0, .inr (9, [.ref a_tape, .ref a_now, .ref a_draft, .ref a_reader, .ref a_acts, .ref a_images, .ref a_one, .ref a_other, .ref a_third, .ref a_spans, .ref a_back, .ref a_span, .ref a_middle, .ref a_reached])), (a_now, .inr (8, [.ref b_sc, .ref b_sp, .ref b_cp, .ref b_sn, .ref b_sl, .int 0, .int 0, .int 0]))] U.heap ∧ va_K D vwCl [] U)) (va_Qi (fun (r : Int32) (_ : Unit) => r = (-1000001)) (fun _ _ => True) (fun _ => False)) 0 0 (fun _ => False) := by
  refine Met.ofW (cc := cX9_share) (maxL := 6) (ret := (some .int)) (by decide) rfl ?_
  intro p e s m args below meth c s₁ B hml hv
  obtain ⟨rfl, hP, hK⟩ := hv
  have hx := B.exec
  have hb := B.bytes
  have hr := B.returns
  have hts := atoms_spec (ws := w_X9_share) B.pre
  have hown : s.vm.findClass RX9 = some m.cls := findClass_of_methodNamed B.named
  have hlocks := B.notSynchronized
  have hS : va_S (fun _ : Nat => False) s.heap s.heap [] := va_S.rf
  have hP : va_P D vwCl [(h0, .inr (9, [.ref a_tape, .ref a_now, .ref a_draft, .ref a_reader, .ref a_acts, .ref a_images, .ref a_one, .ref a_other, .ref a_third, .ref a_spans, .ref a_back, .ref a_span, .ref a_middle, .ref a_reached])), (a_now, .inr (8, [.ref b_sc, .ref b_sp, .ref b_cp, .ref b_sn, .ref b_sl, .int 0, .int 0, .int 0]))] s.heap := hP
  have hl := lv_entry ([.ref h0, .int i_0, .int i_1]) (n := 6) (Nat.le_of_ble_eq_true rfl)
  rw [lg_entry_eq]
  generalize (lg_sl ([.ref h0, .int i_0, .int i_1]) ++ List.replicate (6 - (lg_sl ([.ref h0, .int i_0, .int i_1])).length) Slot.unset).toArray = ls at hl ⊢
  have hl : lv_has ls 6 [(0, .ref h0), (1, .int i_0), (2, .int i_1)] := hl
  obtain ⟨H, hHe⟩ : ∃ H : Heap, H = s.heap := ⟨_, rfl⟩
  rw [← hHe] at hP
  have hS : va_S (fun _ : Nat => False) s.heap H [] := by rw [hHe]; exact hS
  refine pw_heap hHe ?_
  refine lv_aload_n hx hb dX9_share_0 rfl (lv_at hl 0 rfl) ?_
  refine va_get (D := D) (ci := 9) (v := .ref a_now) (C := RX9) (T := TX9) (N := 14) hx hb hts (fun _ h => List.mem_cons_of_mem _ (List.mem_append_left _ (List.mem_append_right _ h))) hown hK hP 0 rfl rfl 1 (by decide) (hts (.fieldLink RX9 19 "LineCites" "now" "LLineCites$Work;") (List.mem_of_getElem? (i := 1) rfl)) (fun _ h9 => h9) rfl dX9_share_1 ?_
  refine lv_iload_n hx hb dX9_share_4 rfl (lv_at hl 1 rfl) ?_
  have hPc := hP.sub (ws' := [(a_now, .inr (8, [.ref b_sc, .ref b_sp, .ref b_cp, .ref b_sn, .ref b_sl, .int 0, .int 0, .int 0]))]) [1] rfl
  have hKc := hK.sub (tys' := []) [] rfl
  refine va_calli (va_runV (As := [.int i_0]) (rest := []) ⟨hx, hb, hml, hown, hts⟩ (c_X8_hasEdition l D a_now i_0 b_sc b_sp b_cp b_sn b_sl) (cwV 1 hts g_X9_share_X8_hasEdition rfl rfl rfl (by decide +kernel) ⟨Nat.le_of_ble_eq_true rfl, Nat.le_of_ble_eq_true rfl⟩) ⟨fun a U g mk q => by obtain ⟨q0, qP, qK⟩ := q; exact ⟨q0, qP, va_K.moved (u := U) (U := U.calling g mk a) (Vm.Alike.refl U.vm) qK⟩, va_recv hKc hPc (ci := 8) (q0 := 0) rfl rfl, fun U hU hW => ⟨rfl, by rw [hU]; exact hPc, va_K.moved hW.alike hKc⟩⟩ rfl rfl hl.1 rfl (lv_room (Nat.le_of_ble_eq_true rfl)) dX9_share_5 ⟨Nat.le_of_ble_eq_true rfl, Nat.le_of_ble_eq_true rfl⟩) hS (fun _ _ h => h.elim) (fun _ h => h.elim) (fun r1 u t H1 locs ht hvm hw hB hz1 hk1 hS => ?_)
  have hP := pw_keep hP (fun q hq => hk1 q hq (fun h => h))
  generalize H1 = H at hP hS ⊢
  refine W.widen (k := 0) (n := 0) (Nat.le_of_ble_eq_true rfl) (Nat.le_of_ble_eq_true rfl) ?_
  obtain rfl : r1 = 0 := hw
  refine lv_if_eq (tgt := 22) hx hb dX9_share_8 (by decide) (fun c2 => ?_) (fun c2 => absurd (by decide) c2)
  refine lv_ldc hx hb hown (hts (.constant RX9 88 (-1000001)) (List.mem_of_getElem? (i := 8) rfl)) dX9_share_22 ?_
  exact W.iret (v := (-1000001)) hx hb hr (fun t ht hW => ⟨⟨(-1000001), (), rfl, rfl, trivial⟩, hS.F ht⟩) hS.2.2 dX9_share_24
def w_X9_score : List Cond := .code yX9_score cX9_score 4 (some .int) :: ([.fieldLink RX9 19 "LineCites" "now" "LLineCites$Work;", .methodLink RX9 138 yX8_hasEdition, .instanceMethod yX8_hasEdition, .selects RX8 yX8_hasEdition yX8_hasEdition, .initialized RX8, .code yX8_hasEdition cX8_hasEdition 2 (some .boolean), .fieldLink RX8 37 "LineCites$Work" "editions" "I", .constant RX9 88 (-1000001)] ++ wsX90 ++ wsX80)
set_option maxRecDepth 20000 in
theorem g_X9_score_X8_hasEdition : GoodIn w_X9_score (wsV RX9 138 RX8 yX8_hasEdition w_X8_hasEdition) := goodIn_r _ [2, 3, 4, 5, 6, 7, 23, 24, 25, 26, 27, 28, 29, 30] rfl (by decide +kernel)
set_option maxHeartbeats 4000000 in
set_option maxRecDepth 100000 in
theorem c_X9_score (l : Launch) (D : va_G) (h0 : Nat) (i_0 : Int32) (i_1 : Int32) (a_tape : Nat) (a_now : Nat) (a_draft : Nat) (a_reader : Nat) (a_acts : Nat) (a_images : Nat) (a_one : Nat) (a_other : Nat) (a_third : Nat) (a_spans : Nat) (a_back : Nat) (a_span : Nat) (a_middle : Nat) (a_reached : Nat) (b_sc : Nat) (b_sp : Nat) (b_cp : Nat) (b_sn : Nat) (b_sl : Nat) : Met l yX9_score w_X9_score ({ frames := 1, cells := 0, slots := 0, locals := 21 }) (va_Pc [.ref h0, .int i_0, .int i_1] (fun U => va_P D vwCl [(h0, .inr (9, [.ref a_tape, .ref a_now, .ref a_draft, .ref a_reader, .ref a_acts, .ref a_images, .ref a_one, .ref a_other, .ref a_third, .ref a_spans, .ref a_back, .ref a_span, .ref a_middle, .ref a_reached])), (a_now, .inr (8, [.ref b_sc, .ref b_sp, .ref b_cp, .ref b_sn, .ref b_sl, .int 0, .int 0, .int 0]))] U.heap ∧ va_K D vwCl [] U)) (va_Qi (fun (r : Int32) (_ : Unit) => r = (-1000001)) (fun _ _ => True) (fun _ => False)) 0 0 (fun _ => False) := by
  refine Met.ofW (cc := cX9_score) (maxL := 4) (ret := (some .int)) (by decide) rfl ?_
  intro p e s m args below meth c s₁ B hml hv
  obtain ⟨rfl, hP, hK⟩ := hv
  have hx := B.exec
  have hb := B.bytes
  have hr := B.returns
  have hts := atoms_spec (ws := w_X9_score) B.pre
  have hown : s.vm.findClass RX9 = some m.cls := findClass_of_methodNamed B.named
  have hlocks := B.notSynchronized
  have hS : va_S (fun _ : Nat => False) s.heap s.heap [] := va_S.rf
  have hP : va_P D vwCl [(h0, .inr (9, [.ref a_tape, .ref a_now, .ref a_draft, .ref a_reader, .ref a_acts, .ref a_images, .ref a_one, .ref a_other, .ref a_third, .ref a_spans, .ref a_back, .ref a_span, .ref a_middle, .ref a_reached])), (a_now, .inr (8, [.ref b_sc, .ref b_sp, .ref b_cp, .ref b_sn, .ref b_sl, .int 0, .int 0, .int 0]))] s.heap := hP
  have hl := lv_entry ([.ref h0, .int i_0, .int i_1]) (n := 4) (Nat.le_of_ble_eq_true rfl)
  rw [lg_entry_eq]
  generalize (lg_sl ([.ref h0, .int i_0, .int i_1]) ++ List.replicate (4 - (lg_sl ([.ref h0, .int i_0, .int i_1])).length) Slot.unset).toArray = ls at hl ⊢
  have hl : lv_has ls 4 [(0, .ref h0), (1, .int i_0), (2, .int i_1)] := hl
  obtain ⟨H, hHe⟩ : ∃ H : Heap, H = s.heap := ⟨_, rfl⟩
  rw [← hHe] at hP
  have hS : va_S (fun _ : Nat => False) s.heap H [] := by rw [hHe]; exact hS
  refine pw_heap hHe ?_
  refine lv_aload_n hx hb dX9_score_0 rfl (lv_at hl 0 rfl) ?_
  refine va_get (D := D) (ci := 9) (v := .ref a_now) (C := RX9) (T := TX9) (N := 14) hx hb hts (fun _ h => List.mem_cons_of_mem _ (List.mem_append_left _ (List.mem_append_right _ h))) hown hK hP 0 rfl rfl 1 (by decide) (hts (.fieldLink RX9 19 "LineCites" "now" "LLineCites$Work;") (List.mem_of_getElem? (i := 1) rfl)) (fun _ h9 => h9) rfl dX9_score_1 ?_
  refine lv_iload_n hx hb dX9_score_4 rfl (lv_at hl 1 rfl) ?_
  have hPc := hP.sub (ws' := [(a_now, .inr (8, [.ref b_sc, .ref b_sp, .ref b_cp, .ref b_sn, .ref b_sl, .int 0, .int 0, .int 0]))]) [1] rfl
  have hKc := hK.sub (tys' := []) [] rfl
  refine va_calli (va_runV (As := [.int i_0]) (rest := []) ⟨hx, hb, hml, hown, hts⟩ (c_X8_hasEdition l D a_now i_0 b_sc b_sp b_cp b_sn b_sl) (cwV 1 hts g_X9_score_X8_hasEdition rfl rfl rfl (by decide +kernel) ⟨Nat.le_of_ble_eq_true rfl, Nat.le_of_ble_eq_true rfl⟩) ⟨fun a U g mk q => by obtain ⟨q0, qP, qK⟩ := q; exact ⟨q0, qP, va_K.moved (u := U) (U := U.calling g mk a) (Vm.Alike.refl U.vm) qK⟩, va_recv hKc hPc (ci := 8) (q0 := 0) rfl rfl, fun U hU hW => ⟨rfl, by rw [hU]; exact hPc, va_K.moved hW.alike hKc⟩⟩ rfl rfl hl.1 rfl (lv_room (Nat.le_of_ble_eq_true rfl)) dX9_score_5 ⟨Nat.le_of_ble_eq_true rfl, Nat.le_of_ble_eq_true rfl⟩) hS (fun _ _ h => h.elim) (fun _ h => h.elim) (fun r1 u t H1 locs ht hvm hw hB hz1 hk1 hS => ?_)
  have hP := pw_keep hP (fun q hq => hk1 q hq (fun h => h))
  generalize H1 = H at hP hS ⊢
  refine W.widen (k := 0) (n := 0) (Nat.le_of_ble_eq_true rfl) (Nat.le_of_ble_eq_true rfl) ?_
  obtain rfl : r1 = 0 := hw
  refine lv_if_eq (tgt := 20) hx hb dX9_score_8 (by decide) (fun c2 => ?_) (fun c2 => absurd (by decide) c2)
  refine lv_ldc hx hb hown (hts (.constant RX9 88 (-1000001)) (List.mem_of_getElem? (i := 8) rfl)) dX9_score_20 ?_
  exact W.iret (v := (-1000001)) hx hb hr (fun t ht hW => ⟨⟨(-1000001), (), rfl, rfl, trivial⟩, hS.F ht⟩) hS.2.2 dX9_score_22
def w_X9_strike : List Cond := .code yX9_strike cX9_strike 2 (some .int) :: ([.fieldLink RX9 19 "LineCites" "now" "LLineCites$Work;", .methodLink RX9 182 yX8_hasCitation, .instanceMethod yX8_hasCitation, .selects RX8 yX8_hasCitation yX8_hasCitation, .initialized RX8, .code yX8_hasCitation cX8_hasCitation 2 (some .boolean), .methodLink RX8 89 yX8_citedPart, .instanceMethod yX8_citedPart, .selects RX8 yX8_citedPart yX8_citedPart, .code yX8_citedPart cX8_citedPart 4 (some .int), .fieldLink RX8 18 "LineCites$Work" "citedParts" "[I", .constant RX9 88 (-1000001)] ++ wsX90 ++ wsX80)
set_option maxRecDepth 20000 in
theorem g_X9_strike_X8_hasCitation : GoodIn w_X9_strike (wsV RX9 182 RX8 yX8_hasCitation w_X8_hasCitation) := goodIn_r _ [2, 3, 4, 5, 6, 7, 8, 9, 5, 10, 11, 27, 28, 29, 30, 31, 32, 33, 34] rfl (by decide +kernel)
set_option maxHeartbeats 4000000 in
set_option maxRecDepth 100000 in
theorem c_X9_strike (l : Launch) (D : va_G) (h0 : Nat) (i_0 : Int32) (a_tape : Nat) (a_now : Nat) (a_draft : Nat) (a_reader : Nat) (a_acts : Nat) (a_images : Nat) (a_one : Nat) (a_other : Nat) (a_third : Nat) (a_spans : Nat) (a_back : Nat) (a_span : Nat) (a_middle : Nat) (a_reached : Nat) (b_sc : Nat) (b_sp : Nat) (b_cp : Nat) (b_sn : Nat) (b_sl : Nat) (k_c : ClassId) : Met l yX9_strike w_X9_strike ({ frames := 2, cells := 0, slots := 0, locals := 44 }) (va_Pc [.ref h0, .int i_0] (fun U => va_P D vwCl [(h0, .inr (9, [.ref a_tape, .ref a_now, .ref a_draft, .ref a_reader, .ref a_acts, .ref a_images, .ref a_one, .ref a_other, .ref a_third, .ref a_spans, .ref a_back, .ref a_span, .ref a_middle, .ref a_reached])), (a_now, .inr (8, [.ref b_sc, .ref b_sp, .ref b_cp, .ref b_sn, .ref b_sl, .int 0, .int 0, .int 0])), (b_cp, .inl (k_c, 32, .inl (fun _ => 0)))] U.heap ∧ va_K D vwCl [(k_c, .int)] U)) (va_Qi (fun (r : Int32) (_ : Unit) => r = (-1000001)) (fun _ _ => True) (fun _ => False)) 0 0 (fun _ => False) := by
  refine Met.ofW (cc := cX9_strike) (maxL := 2) (ret := (some .int)) (by decide) rfl ?_
  intro p e s m args below meth c s₁ B hml hv
  obtain ⟨rfl, hP, hK⟩ := hv
  have hx := B.exec
  have hb := B.bytes
  have hr := B.returns
  have hts := atoms_spec (ws := w_X9_strike) B.pre
  have hown : s.vm.findClass RX9 = some m.cls := findClass_of_methodNamed B.named
  have hlocks := B.notSynchronized
  have hS : va_S (fun _ : Nat => False) s.heap s.heap [] := va_S.rf
  have hP : va_P D vwCl [(h0, .inr (9, [.ref a_tape, .ref a_now, .ref a_draft, .ref a_reader, .ref a_acts, .ref a_images, .ref a_one, .ref a_other, .ref a_third, .ref a_spans, .ref a_back, .ref a_span, .ref a_middle, .ref a_reached])), (a_now, .inr (8, [.ref b_sc, .ref b_sp, .ref b_cp, .ref b_sn, .ref b_sl, .int 0, .int 0, .int 0])), (b_cp, .inl (k_c, 32, .inl (fun _ => 0)))] s.heap := hP
  have hl := lv_entry ([.ref h0, .int i_0]) (n := 2) (Nat.le_of_ble_eq_true rfl)
  rw [lg_entry_eq]
  generalize (lg_sl ([.ref h0, .int i_0]) ++ List.replicate (2 - (lg_sl ([.ref h0, .int i_0])).length) Slot.unset).toArray = ls at hl ⊢
  have hl : lv_has ls 2 [(0, .ref h0), (1, .int i_0)] := hl
  obtain ⟨H, hHe⟩ : ∃ H : Heap, H = s.heap := ⟨_, rfl⟩
  rw [← hHe] at hP
  have hS : va_S (fun _ : Nat => False) s.heap H [] := by rw [hHe]; exact hS
  refine pw_heap hHe ?_
  refine lv_aload_n hx hb dX9_strike_0 rfl (lv_at hl 0 rfl) ?_
  refine va_get (D := D) (ci := 9) (v := .ref a_now) (C := RX9) (T := TX9) (N := 14) hx hb hts (fun _ h => List.mem_cons_of_mem _ (List.mem_append_left _ (List.mem_append_right _ h))) hown hK hP 0 rfl rfl 1 (by decide) (hts (.fieldLink RX9 19 "LineCites" "now" "LLineCites$Work;") (List.mem_of_getElem? (i := 1) rfl)) (fun _ h9 => h9) rfl dX9_strike_1 ?_
  refine lv_iload_n hx hb dX9_strike_4 rfl (lv_at hl 1 rfl) ?_
  have hPc := hP.sub (ws' := [(a_now, .inr (8, [.ref b_sc, .ref b_sp, .ref b_cp, .ref b_sn, .ref b_sl, .int 0, .int 0, .int 0])), (b_cp, .inl (k_c, 32, .inl (fun _ => 0)))]) [1, 2] rfl
  have hKc := hK.sub (tys' := [(k_c, .int)]) [0] rfl
  refine va_calli (va_runV (As := [.int i_0]) (rest := []) ⟨hx, hb, hml, hown, hts⟩ (c_X8_hasCitation l D a_now i_0 b_sc b_sp b_cp b_sn b_sl k_c) (cwV 1 hts g_X9_strike_X8_hasCitation rfl rfl rfl (by decide +kernel) ⟨Nat.le_of_ble_eq_true rfl, Nat.le_of_ble_eq_true rfl⟩) ⟨fun a U g mk q => by obtain ⟨q0, qP, qK⟩ := q; exact ⟨q0, qP, va_K.moved (u := U) (U := U.calling g mk a) (Vm.Alike.refl U.vm) qK⟩, va_recv hKc hPc (ci := 8) (q0 := 0) rfl rfl, fun U hU hW => ⟨rfl, by rw [hU]; exact hPc, va_K.moved hW.alike hKc⟩⟩ rfl rfl hl.1 rfl (lv_room (Nat.le_of_ble_eq_true rfl)) dX9_strike_5 ⟨Nat.le_of_ble_eq_true rfl, Nat.le_of_ble_eq_true rfl⟩) hS (fun _ _ h => h.elim) (fun _ h => h.elim) (fun r1 u t H1 locs ht hvm hw hB hz1 hk1 hS => ?_)
  have hP := pw_keep hP (fun q hq => hk1 q hq (fun h => h))
  generalize H1 = H at hP hS ⊢
  refine W.widen (k := 0) (n := 0) (Nat.le_of_ble_eq_true rfl) (Nat.le_of_ble_eq_true rfl) ?_
  obtain rfl : r1 = 0 := hw
  refine lv_if_ne (tgt := 14) hx hb dX9_strike_8 (by decide) (fun c2 => absurd (by decide) c2) (fun c2 => ?_)
  refine lv_ldc hx hb hown (hts (.constant RX9 88 (-1000001)) (List.mem_of_getElem? (i := 12) rfl)) dX9_strike_11 ?_
  exact W.iret (v := (-1000001)) hx hb hr (fun t ht hW => ⟨⟨(-1000001), (), rfl, rfl, trivial⟩, hS.F ht⟩) hS.2.2 dX9_strike_13
def w_X9_citation : List Cond := .code yX9_citation cX9_citation 3 (some .int) :: ([.fieldLink RX9 19 "LineCites" "now" "LLineCites$Work;", .methodLink RX9 182 yX8_hasCitation, .instanceMethod yX8_hasCitation, .selects RX8 yX8_hasCitation yX8_hasCitation, .initialized RX8, .code yX8_hasCitation cX8_hasCitation 2 (some .boolean), .methodLink RX8 89 yX8_citedPart, .instanceMethod yX8_citedPart, .selects RX8 yX8_citedPart yX8_citedPart, .code yX8_citedPart cX8_citedPart 4 (some .int), .fieldLink RX8 18 "LineCites$Work" "citedParts" "[I", .constant RX9 88 (-1000001)] ++ wsX90 ++ wsX80)
set_option maxRecDepth 20000 in
theorem g_X9_citation_X8_hasCitation : GoodIn w_X9_citation (wsV RX9 182 RX8 yX8_hasCitation w_X8_hasCitation) := goodIn_r _ [2, 3, 4, 5, 6, 7, 8, 9, 5, 10, 11, 27, 28, 29, 30, 31, 32, 33, 34] rfl (by decide +kernel)
set_option maxHeartbeats 4000000 in
set_option maxRecDepth 100000 in
theorem c_X9_citation (l : Launch) (D : va_G) (h0 : Nat) (i_0 : Int32) (i_1 : Int32) (a_tape : Nat) (a_now : Nat) (a_draft : Nat) (a_reader : Nat) (a_acts : Nat) (a_images : Nat) (a_one : Nat) (a_other : Nat) (a_third : Nat) (a_spans : Nat) (a_back : Nat) (a_span : Nat) (a_middle : Nat) (a_reached : Nat) (b_sc : Nat) (b_sp : Nat) (b_cp : Nat) (b_sn : Nat) (b_sl : Nat) (k_c : ClassId) : Met l yX9_citation w_X9_citation ({ frames := 2, cells := 0, slots := 0, locals := 44 }) (va_Pc [.ref h0, .int i_0, .int i_1] (fun U => va_P D vwCl [(h0, .inr (9, [.ref a_tape, .ref a_now, .ref a_draft, .ref a_reader, .ref a_acts, .ref a_images, .ref a_one, .ref a_other, .ref a_third, .ref a_spans, .ref a_back, .ref a_span, .ref a_middle, .ref a_reached])), (a_now, .inr (8, [.ref b_sc, .ref b_sp, .ref b_cp, .ref b_sn, .ref b_sl, .int 0, .int 0, .int 0])), (b_cp, .inl (k_c, 32, .inl (fun _ => 0)))] U.heap ∧ va_K D vwCl [(k_c, .int)] U)) (va_Qi (fun (r : Int32) (_ : Unit) => r = (-1000001)) (fun _ _ => True) (fun _ => False)) 0 0 (fun _ => False) := by
  refine Met.ofW (cc := cX9_citation) (maxL := 3) (ret := (some .int)) (by decide) rfl ?_
  intro p e s m args below meth c s₁ B hml hv
  obtain ⟨rfl, hP, hK⟩ := hv
  have hx := B.exec
  have hb := B.bytes
  have hr := B.returns
  have hts := atoms_spec (ws := w_X9_citation) B.pre
  have hown : s.vm.findClass RX9 = some m.cls := findClass_of_methodNamed B.named
  have hlocks := B.notSynchronized
  have hS : va_S (fun _ : Nat => False) s.heap s.heap [] := va_S.rf
  have hP : va_P D vwCl [(h0, .inr (9, [.ref a_tape, .ref a_now, .ref a_draft, .ref a_reader, .ref a_acts, .ref a_images, .ref a_one, .ref a_other, .ref a_third, .ref a_spans, .ref a_back, .ref a_span, .ref a_middle, .ref a_reached])), (a_now, .inr (8, [.ref b_sc, .ref b_sp, .ref b_cp, .ref b_sn, .ref b_sl, .int 0, .int 0, .int 0])), (b_cp, .inl (k_c, 32, .inl (fun _ => 0)))] s.heap := hP
  have hl := lv_entry ([.ref h0, .int i_0, .int i_1]) (n := 3) (Nat.le_of_ble_eq_true rfl)
  rw [lg_entry_eq]
  generalize (lg_sl ([.ref h0, .int i_0, .int i_1]) ++ List.replicate (3 - (lg_sl ([.ref h0, .int i_0, .int i_1])).length) Slot.unset).toArray = ls at hl ⊢
  have hl : lv_has ls 3 [(0, .ref h0), (1, .int i_0), (2, .int i_1)] := hl
  obtain ⟨H, hHe⟩ : ∃ H : Heap, H = s.heap := ⟨_, rfl⟩
  rw [← hHe] at hP
  have hS : va_S (fun _ : Nat => False) s.heap H [] := by rw [hHe]; exact hS
  refine pw_heap hHe ?_
  refine lv_aload_n hx hb dX9_citation_0 rfl (lv_at hl 0 rfl) ?_
  refine va_get (D := D) (ci := 9) (v := .ref a_now) (C := RX9) (T := TX9) (N := 14) hx hb hts (fun _ h => List.mem_cons_of_mem _ (List.mem_append_left _ (List.mem_append_right _ h))) hown hK hP 0 rfl rfl 1 (by decide) (hts (.fieldLink RX9 19 "LineCites" "now" "LLineCites$Work;") (List.mem_of_getElem? (i := 1) rfl)) (fun _ h9 => h9) rfl dX9_citation_1 ?_
  refine lv_iload_n hx hb dX9_citation_4 rfl (lv_at hl 1 rfl) ?_
  have hPc := hP.sub (ws' := [(a_now, .inr (8, [.ref b_sc, .ref b_sp, .ref b_cp, .ref b_sn, .ref b_sl, .int 0, .int 0, .int 0])), (b_cp, .inl (k_c, 32, .inl (fun _ => 0)))]) [1, 2] rfl
  have hKc := hK.sub (tys' := [(k_c, .int)]) [0] rfl
  refine va_calli (va_runV (As := [.int i_0]) (rest := []) ⟨hx, hb, hml, hown, hts⟩ (c_X8_hasCitation l D a_now i_0 b_sc b_sp b_cp b_sn b_sl k_c) (cwV 1 hts g_X9_citation_X8_hasCitation rfl rfl rfl (by decide +kernel) ⟨Nat.le_of_ble_eq_true rfl, Nat.le_of_ble_eq_true rfl⟩) ⟨fun a U g mk q => by obtain ⟨q0, qP, qK⟩ := q; exact ⟨q0, qP, va_K.moved (u := U) (U := U.calling g mk a) (Vm.Alike.refl U.vm) qK⟩, va_recv hKc hPc (ci := 8) (q0 := 0) rfl rfl, fun U hU hW => ⟨rfl, by rw [hU]; exact hPc, va_K.moved hW.alike hKc⟩⟩ rfl rfl hl.1 rfl (lv_room (Nat.le_of_ble_eq_true rfl)) dX9_citation_5 ⟨Nat.le_of_ble_eq_true rfl, Nat.le_of_ble_eq_true rfl⟩) hS (fun _ _ h => h.elim) (fun _ h => h.elim) (fun r1 u t H1 locs ht hvm hw hB hz1 hk1 hS => ?_)
  have hP := pw_keep hP (fun q hq => hk1 q hq (fun h => h))
  generalize H1 = H at hP hS ⊢
  refine W.widen (k := 0) (n := 0) (Nat.le_of_ble_eq_true rfl) (Nat.le_of_ble_eq_true rfl) ?_
  obtain rfl : r1 = 0 := hw
  refine lv_if_eq (tgt := 21) hx hb dX9_citation_8 (by decide) (fun c2 => ?_) (fun c2 => absurd (by decide) c2)
  refine lv_ldc hx hb hown (hts (.constant RX9 88 (-1000001)) (List.mem_of_getElem? (i := 12) rfl)) dX9_citation_21 ?_
  exact W.iret (v := (-1000001)) hx hb hr (fun t ht hW => ⟨⟨(-1000001), (), rfl, rfl, trivial⟩, hS.F ht⟩) hS.2.2 dX9_citation_23
def w_X9_turned : List Cond := .code yX9_turned cX9_turned 7 (some .int) :: ([.fieldLink RX9 19 "LineCites" "now" "LLineCites$Work;", .methodLink RX9 182 yX8_hasCitation, .instanceMethod yX8_hasCitation, .selects RX8 yX8_hasCitation yX8_hasCitation, .initialized RX8, .code yX8_hasCitation cX8_hasCitation 2 (some .boolean), .methodLink RX8 89 yX8_citedPart, .instanceMethod yX8_citedPart, .selects RX8 yX8_citedPart yX8_citedPart, .code yX8_citedPart cX8_citedPart 4 (some .int), .fieldLink RX8 18 "LineCites$Work" "citedParts" "[I", .constant RX9 88 (-1000001)] ++ wsX90 ++ wsX80)
set_option maxRecDepth 20000 in
theorem g_X9_turned_X8_hasCitation : GoodIn w_X9_turned (wsV RX9 182 RX8 yX8_hasCitation w_X8_hasCitation) := goodIn_r _ [2, 3, 4, 5, 6, 7, 8, 9, 5, 10, 11, 27, 28, 29, 30, 31, 32, 33, 34] rfl (by decide +kernel)
set_option maxHeartbeats 4000000 in
set_option maxRecDepth 100000 in
theorem c_X9_turned (l : Launch) (D : va_G) (h0 : Nat) (i_0 : Int32) (i_1 : Int32) (i_2 : Int32) (a_tape : Nat) (a_now : Nat) (a_draft : Nat) (a_reader : Nat) (a_acts : Nat) (a_images : Nat) (a_one : Nat) (a_other : Nat) (a_third : Nat) (a_spans : Nat) (a_back : Nat) (a_span : Nat) (a_middle : Nat) (a_reached : Nat) (b_sc : Nat) (b_sp : Nat) (b_cp : Nat) (b_sn : Nat) (b_sl : Nat) (k_c : ClassId) : Met l yX9_turned w_X9_turned ({ frames := 2, cells := 0, slots := 0, locals := 44 }) (va_Pc [.ref h0, .int i_0, .int i_1, .int i_2] (fun U => va_P D vwCl [(h0, .inr (9, [.ref a_tape, .ref a_now, .ref a_draft, .ref a_reader, .ref a_acts, .ref a_images, .ref a_one, .ref a_other, .ref a_third, .ref a_spans, .ref a_back, .ref a_span, .ref a_middle, .ref a_reached])), (a_now, .inr (8, [.ref b_sc, .ref b_sp, .ref b_cp, .ref b_sn, .ref b_sl, .int 0, .int 0, .int 0])), (b_cp, .inl (k_c, 32, .inl (fun _ => 0)))] U.heap ∧ va_K D vwCl [(k_c, .int)] U)) (va_Qi (fun (r : Int32) (_ : Unit) => r = (-1000001)) (fun _ _ => True) (fun _ => False)) 0 0 (fun _ => False) := by
  refine Met.ofW (cc := cX9_turned) (maxL := 7) (ret := (some .int)) (by decide) rfl ?_
  intro p e s m args below meth c s₁ B hml hv
  obtain ⟨rfl, hP, hK⟩ := hv
  have hx := B.exec
  have hb := B.bytes
  have hr := B.returns
  have hts := atoms_spec (ws := w_X9_turned) B.pre
  have hown : s.vm.findClass RX9 = some m.cls := findClass_of_methodNamed B.named
  have hlocks := B.notSynchronized
  have hS : va_S (fun _ : Nat => False) s.heap s.heap [] := va_S.rf
  have hP : va_P D vwCl [(h0, .inr (9, [.ref a_tape, .ref a_now, .ref a_draft, .ref a_reader, .ref a_acts, .ref a_images, .ref a_one, .ref a_other, .ref a_third, .ref a_spans, .ref a_back, .ref a_span, .ref a_middle, .ref a_reached])), (a_now, .inr (8, [.ref b_sc, .ref b_sp, .ref b_cp, .ref b_sn, .ref b_sl, .int 0, .int 0, .int 0])), (b_cp, .inl (k_c, 32, .inl (fun _ => 0)))] s.heap := hP
  have hl := lv_entry ([.ref h0, .int i_0, .int i_1, .int i_2]) (n := 7) (Nat.le_of_ble_eq_true rfl)
  rw [lg_entry_eq]
  generalize (lg_sl ([.ref h0, .int i_0, .int i_1, .int i_2]) ++ List.replicate (7 - (lg_sl ([.ref h0, .int i_0, .int i_1, .int i_2])).length) Slot.unset).toArray = ls at hl ⊢
  have hl : lv_has ls 7 [(0, .ref h0), (1, .int i_0), (2, .int i_1), (3, .int i_2)] := hl
  obtain ⟨H, hHe⟩ : ∃ H : Heap, H = s.heap := ⟨_, rfl⟩
  rw [← hHe] at hP
  have hS : va_S (fun _ : Nat => False) s.heap H [] := by rw [hHe]; exact hS
  refine pw_heap hHe ?_
  refine lv_aload_n hx hb dX9_turned_0 rfl (lv_at hl 0 rfl) ?_
  refine va_get (D := D) (ci := 9) (v := .ref a_now) (C := RX9) (T := TX9) (N := 14) hx hb hts (fun _ h => List.mem_cons_of_mem _ (List.mem_append_left _ (List.mem_append_right _ h))) hown hK hP 0 rfl rfl 1 (by decide) (hts (.fieldLink RX9 19 "LineCites" "now" "LLineCites$Work;") (List.mem_of_getElem? (i := 1) rfl)) (fun _ h9 => h9) rfl dX9_turned_1 ?_
  refine lv_iload_n hx hb dX9_turned_4 rfl (lv_at hl 1 rfl) ?_
  have hPc := hP.sub (ws' := [(a_now, .inr (8, [.ref b_sc, .ref b_sp, .ref b_cp, .ref b_sn, .ref b_sl, .int 0, .int 0, .int 0])), (b_cp, .inl (k_c, 32, .inl (fun _ => 0)))]) [1, 2] rfl
  have hKc := hK.sub (tys' := [(k_c, .int)]) [0] rfl
  refine va_calli (va_runV (As := [.int i_0]) (rest := []) ⟨hx, hb, hml, hown, hts⟩ (c_X8_hasCitation l D a_now i_0 b_sc b_sp b_cp b_sn b_sl k_c) (cwV 1 hts g_X9_turned_X8_hasCitation rfl rfl rfl (by decide +kernel) ⟨Nat.le_of_ble_eq_true rfl, Nat.le_of_ble_eq_true rfl⟩) ⟨fun a U g mk q => by obtain ⟨q0, qP, qK⟩ := q; exact ⟨q0, qP, va_K.moved (u := U) (U := U.calling g mk a) (Vm.Alike.refl U.vm) qK⟩, va_recv hKc hPc (ci := 8) (q0 := 0) rfl rfl, fun U hU hW => ⟨rfl, by rw [hU]; exact hPc, va_K.moved hW.alike hKc⟩⟩ rfl rfl hl.1 rfl (lv_room (Nat.le_of_ble_eq_true rfl)) dX9_turned_5 ⟨Nat.le_of_ble_eq_true rfl, Nat.le_of_ble_eq_true rfl⟩) hS (fun _ _ h => h.elim) (fun _ h => h.elim) (fun r1 u t H1 locs ht hvm hw hB hz1 hk1 hS => ?_)
  have hP := pw_keep hP (fun q hq => hk1 q hq (fun h => h))
  generalize H1 = H at hP hS ⊢
  refine W.widen (k := 0) (n := 0) (Nat.le_of_ble_eq_true rfl) (Nat.le_of_ble_eq_true rfl) ?_
  obtain rfl : r1 = 0 := hw
  refine lv_if_eq (tgt := 22) hx hb dX9_turned_8 (by decide) (fun c2 => ?_) (fun c2 => absurd (by decide) c2)
  refine lv_ldc hx hb hown (hts (.constant RX9 88 (-1000001)) (List.mem_of_getElem? (i := 12) rfl)) dX9_turned_22 ?_
  exact W.iret (v := (-1000001)) hx hb hr (fun t ht hW => ⟨⟨(-1000001), (), rfl, rfl, trivial⟩, hS.F ht⟩) hS.2.2 dX9_turned_24
def w_X9_meet : List Cond := .code yX9_meet cX9_meet 8 (some .int) :: ([.fieldLink RX9 19 "LineCites" "now" "LLineCites$Work;", .methodLink RX9 182 yX8_hasCitation, .instanceMethod yX8_hasCitation, .selects RX8 yX8_hasCitation yX8_hasCitation, .initialized RX8, .code yX8_hasCitation cX8_hasCitation 2 (some .boolean), .methodLink RX8 89 yX8_citedPart, .instanceMethod yX8_citedPart, .selects RX8 yX8_citedPart yX8_citedPart, .code yX8_citedPart cX8_citedPart 4 (some .int), .fieldLink RX8 18 "LineCites$Work" "citedParts" "[I", .constant RX9 88 (-1000001)] ++ wsX90 ++ wsX80)
set_option maxRecDepth 20000 in
theorem g_X9_meet_X8_hasCitation : GoodIn w_X9_meet (wsV RX9 182 RX8 yX8_hasCitation w_X8_hasCitation) := goodIn_r _ [2, 3, 4, 5, 6, 7, 8, 9, 5, 10, 11, 27, 28, 29, 30, 31, 32, 33, 34] rfl (by decide +kernel)
set_option maxHeartbeats 4000000 in
set_option maxRecDepth 100000 in
theorem c_X9_meet (l : Launch) (D : va_G) (h0 : Nat) (i_0 : Int32) (i_1 : Int32) (i_2 : Int32) (a_tape : Nat) (a_now : Nat) (a_draft : Nat) (a_reader : Nat) (a_acts : Nat) (a_images : Nat) (a_one : Nat) (a_other : Nat) (a_third : Nat) (a_spans : Nat) (a_back : Nat) (a_span : Nat) (a_middle : Nat) (a_reached : Nat) (b_sc : Nat) (b_sp : Nat) (b_cp : Nat) (b_sn : Nat) (b_sl : Nat) (k_c : ClassId) : Met l yX9_meet w_X9_meet ({ frames := 2, cells := 0, slots := 0, locals := 44 }) (va_Pc [.ref h0, .int i_0, .int i_1, .int i_2] (fun U => va_P D vwCl [(h0, .inr (9, [.ref a_tape, .ref a_now, .ref a_draft, .ref a_reader, .ref a_acts, .ref a_images, .ref a_one, .ref a_other, .ref a_third, .ref a_spans, .ref a_back, .ref a_span, .ref a_middle, .ref a_reached])), (a_now, .inr (8, [.ref b_sc, .ref b_sp, .ref b_cp, .ref b_sn, .ref b_sl, .int 0, .int 0, .int 0])), (b_cp, .inl (k_c, 32, .inl (fun _ => 0)))] U.heap ∧ va_K D vwCl [(k_c, .int)] U)) (va_Qi (fun (r : Int32) (_ : Unit) => r = (-1000001)) (fun _ _ => True) (fun _ => False)) 0 0 (fun _ => False) := by
  refine Met.ofW (cc := cX9_meet) (maxL := 8) (ret := (some .int)) (by decide) rfl ?_
  intro p e s m args below meth c s₁ B hml hv
  obtain ⟨rfl, hP, hK⟩ := hv
  have hx := B.exec
  have hb := B.bytes
  have hr := B.returns
  have hts := atoms_spec (ws := w_X9_meet) B.pre
  have hown : s.vm.findClass RX9 = some m.cls := findClass_of_methodNamed B.named
  have hlocks := B.notSynchronized
  have hS : va_S (fun _ : Nat => False) s.heap s.heap [] := va_S.rf
  have hP : va_P D vwCl [(h0, .inr (9, [.ref a_tape, .ref a_now, .ref a_draft, .ref a_reader, .ref a_acts, .ref a_images, .ref a_one, .ref a_other, .ref a_third, .ref a_spans, .ref a_back, .ref a_span, .ref a_middle, .ref a_reached])), (a_now, .inr (8, [.ref b_sc, .ref b_sp, .ref b_cp, .ref b_sn, .ref b_sl, .int 0, .int 0, .int 0])), (b_cp, .inl (k_c, 32, .inl (fun _ => 0)))] s.heap := hP
  have hl := lv_entry ([.ref h0, .int i_0, .int i_1, .int i_2]) (n := 8) (Nat.le_of_ble_eq_true rfl)
  rw [lg_entry_eq]
  generalize (lg_sl ([.ref h0, .int i_0, .int i_1, .int i_2]) ++ List.replicate (8 - (lg_sl ([.ref h0, .int i_0, .int i_1, .int i_2])).length) Slot.unset).toArray = ls at hl ⊢
  have hl : lv_has ls 8 [(0, .ref h0), (1, .int i_0), (2, .int i_1), (3, .int i_2)] := hl
  obtain ⟨H, hHe⟩ : ∃ H : Heap, H = s.heap := ⟨_, rfl⟩
  rw [← hHe] at hP
  have hS : va_S (fun _ : Nat => False) s.heap H [] := by rw [hHe]; exact hS
  refine pw_heap hHe ?_
  refine lv_aload_n hx hb dX9_meet_0 rfl (lv_at hl 0 rfl) ?_
  refine va_get (D := D) (ci := 9) (v := .ref a_now) (C := RX9) (T := TX9) (N := 14) hx hb hts (fun _ h => List.mem_cons_of_mem _ (List.mem_append_left _ (List.mem_append_right _ h))) hown hK hP 0 rfl rfl 1 (by decide) (hts (.fieldLink RX9 19 "LineCites" "now" "LLineCites$Work;") (List.mem_of_getElem? (i := 1) rfl)) (fun _ h9 => h9) rfl dX9_meet_1 ?_
  refine lv_iload_n hx hb dX9_meet_4 rfl (lv_at hl 1 rfl) ?_
  have hPc := hP.sub (ws' := [(a_now, .inr (8, [.ref b_sc, .ref b_sp, .ref b_cp, .ref b_sn, .ref b_sl, .int 0, .int 0, .int 0])), (b_cp, .inl (k_c, 32, .inl (fun _ => 0)))]) [1, 2] rfl
  have hKc := hK.sub (tys' := [(k_c, .int)]) [0] rfl
  refine va_calli (va_runV (As := [.int i_0]) (rest := []) ⟨hx, hb, hml, hown, hts⟩ (c_X8_hasCitation l D a_now i_0 b_sc b_sp b_cp b_sn b_sl k_c) (cwV 1 hts g_X9_meet_X8_hasCitation rfl rfl rfl (by decide +kernel) ⟨Nat.le_of_ble_eq_true rfl, Nat.le_of_ble_eq_true rfl⟩) ⟨fun a U g mk q => by obtain ⟨q0, qP, qK⟩ := q; exact ⟨q0, qP, va_K.moved (u := U) (U := U.calling g mk a) (Vm.Alike.refl U.vm) qK⟩, va_recv hKc hPc (ci := 8) (q0 := 0) rfl rfl, fun U hU hW => ⟨rfl, by rw [hU]; exact hPc, va_K.moved hW.alike hKc⟩⟩ rfl rfl hl.1 rfl (lv_room (Nat.le_of_ble_eq_true rfl)) dX9_meet_5 ⟨Nat.le_of_ble_eq_true rfl, Nat.le_of_ble_eq_true rfl⟩) hS (fun _ _ h => h.elim) (fun _ h => h.elim) (fun r1 u t H1 locs ht hvm hw hB hz1 hk1 hS => ?_)
  have hP := pw_keep hP (fun q hq => hk1 q hq (fun h => h))
  generalize H1 = H at hP hS ⊢
  refine W.widen (k := 0) (n := 0) (Nat.le_of_ble_eq_true rfl) (Nat.le_of_ble_eq_true rfl) ?_
  obtain rfl : r1 = 0 := hw
  refine lv_if_eq (tgt := 31) hx hb dX9_meet_8 (by decide) (fun c2 => ?_) (fun c2 => absurd (by decide) c2)
  refine lv_ldc hx hb hown (hts (.constant RX9 88 (-1000001)) (List.mem_of_getElem? (i := 12) rfl)) dX9_meet_31 ?_
  exact W.iret (v := (-1000001)) hx hb hr (fun t ht hW => ⟨⟨(-1000001), (), rfl, rfl, trivial⟩, hS.F ht⟩) hS.2.2 dX9_meet_33
def w_X9_could : List Cond := .code yX9_could cX9_could 5 (some .int) :: ([.fieldLink RX9 19 "LineCites" "now" "LLineCites$Work;", .methodLink RX9 182 yX8_hasCitation, .instanceMethod yX8_hasCitation, .selects RX8 yX8_hasCitation yX8_hasCitation, .initialized RX8, .code yX8_hasCitation cX8_hasCitation 2 (some .boolean), .methodLink RX8 89 yX8_citedPart, .instanceMethod yX8_citedPart, .selects RX8 yX8_citedPart yX8_citedPart, .code yX8_citedPart cX8_citedPart 4 (some .int), .fieldLink RX8 18 "LineCites$Work" "citedParts" "[I", .constant RX9 88 (-1000001)] ++ wsX90 ++ wsX80)
set_option maxRecDepth 20000 in
theorem g_X9_could_X8_hasCitation : GoodIn w_X9_could (wsV RX9 182 RX8 yX8_hasCitation w_X8_hasCitation) := goodIn_r _ [2, 3, 4, 5, 6, 7, 8, 9, 5, 10, 11, 27, 28, 29, 30, 31, 32, 33, 34] rfl (by decide +kernel)
set_option maxHeartbeats 4000000 in
set_option maxRecDepth 100000 in
theorem c_X9_could (l : Launch) (D : va_G) (h0 : Nat) (i_0 : Int32) (i_1 : Int32) (a_tape : Nat) (a_now : Nat) (a_draft : Nat) (a_reader : Nat) (a_acts : Nat) (a_images : Nat) (a_one : Nat) (a_other : Nat) (a_third : Nat) (a_spans : Nat) (a_back : Nat) (a_span : Nat) (a_middle : Nat) (a_reached : Nat) (b_sc : Nat) (b_sp : Nat) (b_cp : Nat) (b_sn : Nat) (b_sl : Nat) (k_c : ClassId) : Met l yX9_could w_X9_could ({ frames := 2, cells := 0, slots := 0, locals := 44 }) (va_Pc [.ref h0, .int i_0, .int i_1] (fun U => va_P D vwCl [(h0, .inr (9, [.ref a_tape, .ref a_now, .ref a_draft, .ref a_reader, .ref a_acts, .ref a_images, .ref a_one, .ref a_other, .ref a_third, .ref a_spans, .ref a_back, .ref a_span, .ref a_middle, .ref a_reached])), (a_now, .inr (8, [.ref b_sc, .ref b_sp, .ref b_cp, .ref b_sn, .ref b_sl, .int 0, .int 0, .int 0])), (b_cp, .inl (k_c, 32, .inl (fun _ => 0)))] U.heap ∧ va_K D vwCl [(k_c, .int)] U)) (va_Qi (fun (r : Int32) (_ : Unit) => r = (-1000001)) (fun _ _ => True) (fun _ => False)) 0 0 (fun _ => False) := by
  refine Met.ofW (cc := cX9_could) (maxL := 5) (ret := (some .int)) (by decide) rfl ?_
  intro p e s m args below meth c s₁ B hml hv
  obtain ⟨rfl, hP, hK⟩ := hv
  have hx := B.exec
  have hb := B.bytes
  have hr := B.returns
  have hts := atoms_spec (ws := w_X9_could) B.pre
  have hown : s.vm.findClass RX9 = some m.cls := findClass_of_methodNamed B.named
  have hlocks := B.notSynchronized
  have hS : va_S (fun _ : Nat => False) s.heap s.heap [] := va_S.rf
  have hP : va_P D vwCl [(h0, .inr (9, [.ref a_tape, .ref a_now, .ref a_draft, .ref a_reader, .ref a_acts, .ref a_images, .ref a_one, .ref a_other, .ref a_third, .ref a_spans, .ref a_back, .ref a_span, .ref a_middle, .ref a_reached])), (a_now, .inr (8, [.ref b_sc, .ref b_sp, .ref b_cp, .ref b_sn, .ref b_sl, .int 0, .int 0, .int 0])), (b_cp, .inl (k_c, 32, .inl (fun _ => 0)))] s.heap := hP
  have hl := lv_entry ([.ref h0, .int i_0, .int i_1]) (n := 5) (Nat.le_of_ble_eq_true rfl)
  rw [lg_entry_eq]
  generalize (lg_sl ([.ref h0, .int i_0, .int i_1]) ++ List.replicate (5 - (lg_sl ([.ref h0, .int i_0, .int i_1])).length) Slot.unset).toArray = ls at hl ⊢
  have hl : lv_has ls 5 [(0, .ref h0), (1, .int i_0), (2, .int i_1)] := hl
  obtain ⟨H, hHe⟩ : ∃ H : Heap, H = s.heap := ⟨_, rfl⟩
  rw [← hHe] at hP
  have hS : va_S (fun _ : Nat => False) s.heap H [] := by rw [hHe]; exact hS
  refine pw_heap hHe ?_
  refine lv_aload_n hx hb dX9_could_0 rfl (lv_at hl 0 rfl) ?_
  refine va_get (D := D) (ci := 9) (v := .ref a_now) (C := RX9) (T := TX9) (N := 14) hx hb hts (fun _ h => List.mem_cons_of_mem _ (List.mem_append_left _ (List.mem_append_right _ h))) hown hK hP 0 rfl rfl 1 (by decide) (hts (.fieldLink RX9 19 "LineCites" "now" "LLineCites$Work;") (List.mem_of_getElem? (i := 1) rfl)) (fun _ h9 => h9) rfl dX9_could_1 ?_
  refine lv_iload_n hx hb dX9_could_4 rfl (lv_at hl 1 rfl) ?_
  have hPc := hP.sub (ws' := [(a_now, .inr (8, [.ref b_sc, .ref b_sp, .ref b_cp, .ref b_sn, .ref b_sl, .int 0, .int 0, .int 0])), (b_cp, .inl (k_c, 32, .inl (fun _ => 0)))]) [1, 2] rfl
  have hKc := hK.sub (tys' := [(k_c, .int)]) [0] rfl
  refine va_calli (va_runV (As := [.int i_0]) (rest := []) ⟨hx, hb, hml, hown, hts⟩ (c_X8_hasCitation l D a_now i_0 b_sc b_sp b_cp b_sn b_sl k_c) (cwV 1 hts g_X9_could_X8_hasCitation rfl rfl rfl (by decide +kernel) ⟨Nat.le_of_ble_eq_true rfl, Nat.le_of_ble_eq_true rfl⟩) ⟨fun a U g mk q => by obtain ⟨q0, qP, qK⟩ := q; exact ⟨q0, qP, va_K.moved (u := U) (U := U.calling g mk a) (Vm.Alike.refl U.vm) qK⟩, va_recv hKc hPc (ci := 8) (q0 := 0) rfl rfl, fun U hU hW => ⟨rfl, by rw [hU]; exact hPc, va_K.moved hW.alike hKc⟩⟩ rfl rfl hl.1 rfl (lv_room (Nat.le_of_ble_eq_true rfl)) dX9_could_5 ⟨Nat.le_of_ble_eq_true rfl, Nat.le_of_ble_eq_true rfl⟩) hS (fun _ _ h => h.elim) (fun _ h => h.elim) (fun r1 u t H1 locs ht hvm hw hB hz1 hk1 hS => ?_)
  have hP := pw_keep hP (fun q hq => hk1 q hq (fun h => h))
  generalize H1 = H at hP hS ⊢
  refine W.widen (k := 0) (n := 0) (Nat.le_of_ble_eq_true rfl) (Nat.le_of_ble_eq_true rfl) ?_
  obtain rfl : r1 = 0 := hw
  refine lv_if_eq (tgt := 22) hx hb dX9_could_8 (by decide) (fun c2 => ?_) (fun c2 => absurd (by decide) c2)
  refine lv_ldc hx hb hown (hts (.constant RX9 88 (-1000001)) (List.mem_of_getElem? (i := 12) rfl)) dX9_could_22 ?_
  exact W.iret (v := (-1000001)) hx hb hr (fun t ht hW => ⟨⟨(-1000001), (), rfl, rfl, trivial⟩, hS.F ht⟩) hS.2.2 dX9_could_24
def w_X9_best : List Cond := .code yX9_best cX9_best 5 (some .int) :: ([.fieldLink RX9 19 "LineCites" "now" "LLineCites$Work;", .methodLink RX9 248 yX8_lines, .instanceMethod yX8_lines, .selects RX8 yX8_lines yX8_lines, .initialized RX8, .code yX8_lines cX8_lines 1 (some .int), .fieldLink RX8 33 "LineCites$Work" "lines" "I", .constant RX9 137 (-1000002)] ++ wsX90 ++ wsX80)
set_option maxRecDepth 20000 in
theorem g_X9_best_X8_lines : GoodIn w_X9_best (wsV RX9 248 RX8 yX8_lines w_X8_lines) := goodIn_r _ [2, 3, 4, 5, 6, 7, 23, 24, 25, 26, 27, 28, 29, 30] rfl (by decide +kernel)
set_option maxHeartbeats 4000000 in
set_option maxRecDepth 100000 in
theorem c_X9_best (l : Launch) (D : va_G) (h0 : Nat) (a_tape : Nat) (a_now : Nat) (a_draft : Nat) (a_reader : Nat) (a_acts : Nat) (a_images : Nat) (a_one : Nat) (a_other : Nat) (a_third : Nat) (a_spans : Nat) (a_back : Nat) (a_span : Nat) (a_middle : Nat) (a_reached : Nat) (b_sc : Nat) (b_sp : Nat) (b_cp : Nat) (b_sn : Nat) (b_sl : Nat) : Met l yX9_best w_X9_best ({ frames := 1, cells := 0, slots := 0, locals := 20 }) (va_Pc [.ref h0] (fun U => va_P D vwCl [(h0, .inr (9, [.ref a_tape, .ref a_now, .ref a_draft, .ref a_reader, .ref a_acts, .ref a_images, .ref a_one, .ref a_other, .ref a_third, .ref a_spans, .ref a_back, .ref a_span, .ref a_middle, .ref a_reached])), (a_now, .inr (8, [.ref b_sc, .ref b_sp, .ref b_cp, .ref b_sn, .ref b_sl, .int 0, .int 0, .int 0]))] U.heap ∧ va_K D vwCl [] U)) (va_Qi (fun (r : Int32) (_ : Unit) => r = (-1000002)) (fun _ _ => True) (fun _ => False)) 0 0 (fun _ => False) := by
  refine Met.ofW (cc := cX9_best) (maxL := 5) (ret := (some .int)) (by decide) rfl ?_
  intro p e s m args below meth c s₁ B hml hv
  obtain ⟨rfl, hP, hK⟩ := hv
  have hx := B.exec
  have hb := B.bytes
  have hr := B.returns
  have hts := atoms_spec (ws := w_X9_best) B.pre
  have hown : s.vm.findClass RX9 = some m.cls := findClass_of_methodNamed B.named
  have hlocks := B.notSynchronized
  have hS : va_S (fun _ : Nat => False) s.heap s.heap [] := va_S.rf
  have hP : va_P D vwCl [(h0, .inr (9, [.ref a_tape, .ref a_now, .ref a_draft, .ref a_reader, .ref a_acts, .ref a_images, .ref a_one, .ref a_other, .ref a_third, .ref a_spans, .ref a_back, .ref a_span, .ref a_middle, .ref a_reached])), (a_now, .inr (8, [.ref b_sc, .ref b_sp, .ref b_cp, .ref b_sn, .ref b_sl, .int 0, .int 0, .int 0]))] s.heap := hP
  have hl := lv_entry ([.ref h0]) (n := 5) (Nat.le_of_ble_eq_true rfl)
  rw [lg_entry_eq]
  generalize (lg_sl ([.ref h0]) ++ List.replicate (5 - (lg_sl ([.ref h0])).length) Slot.unset).toArray = ls at hl ⊢
  have hl : lv_has ls 5 [(0, .ref h0)] := hl
  obtain ⟨H, hHe⟩ : ∃ H : Heap, H = s.heap := ⟨_, rfl⟩
  rw [← hHe] at hP
  have hS : va_S (fun _ : Nat => False) s.heap H [] := by rw [hHe]; exact hS
  refine pw_heap hHe ?_
  refine lv_aload_n hx hb dX9_best_0 rfl (lv_at hl 0 rfl) ?_
  refine va_get (D := D) (ci := 9) (v := .ref a_now) (C := RX9) (T := TX9) (N := 14) hx hb hts (fun _ h => List.mem_cons_of_mem _ (List.mem_append_left _ (List.mem_append_right _ h))) hown hK hP 0 rfl rfl 1 (by decide) (hts (.fieldLink RX9 19 "LineCites" "now" "LLineCites$Work;") (List.mem_of_getElem? (i := 1) rfl)) (fun _ h9 => h9) rfl dX9_best_1 ?_
  have hPc := hP.sub (ws' := [(a_now, .inr (8, [.ref b_sc, .ref b_sp, .ref b_cp, .ref b_sn, .ref b_sl, .int 0, .int 0, .int 0]))]) [1] rfl
  have hKc := hK.sub (tys' := []) [] rfl
  refine va_calli (va_runV (As := []) (rest := []) ⟨hx, hb, hml, hown, hts⟩ (c_X8_lines l D a_now b_sc b_sp b_cp b_sn b_sl) (cwV 0 hts g_X9_best_X8_lines rfl rfl rfl (by decide +kernel) ⟨Nat.le_of_ble_eq_true rfl, Nat.le_of_ble_eq_true rfl⟩) ⟨fun a U g mk q => by obtain ⟨q0, qP, qK⟩ := q; exact ⟨q0, qP, va_K.moved (u := U) (U := U.calling g mk a) (Vm.Alike.refl U.vm) qK⟩, va_recv hKc hPc (ci := 8) (q0 := 0) rfl rfl, fun U hU hW => ⟨rfl, by rw [hU]; exact hPc, va_K.moved hW.alike hKc⟩⟩ rfl rfl hl.1 rfl (lv_room (Nat.le_of_ble_eq_true rfl)) dX9_best_4 ⟨Nat.le_of_ble_eq_true rfl, Nat.le_of_ble_eq_true rfl⟩) hS (fun _ _ h => h.elim) (fun _ h => h.elim) (fun r1 u t H1 locs ht hvm hw hB hz1 hk1 hS => ?_)
  have hP := pw_keep hP (fun q hq => hk1 q hq (fun h => h))
  generalize H1 = H at hP hS ⊢
  refine W.widen (k := 0) (n := 0) (Nat.le_of_ble_eq_true rfl) (Nat.le_of_ble_eq_true rfl) ?_
  obtain rfl : r1 = 0 := hw
  refine lv_if_ne (tgt := 13) hx hb dX9_best_7 (by decide) (fun c2 => absurd (by decide) c2) (fun c2 => ?_)
  refine lv_ldc hx hb hown (hts (.constant RX9 137 (-1000002)) (List.mem_of_getElem? (i := 8) rfl)) dX9_best_10 ?_
  exact W.iret (v := (-1000002)) hx hb hr (fun t ht hW => ⟨⟨(-1000002), (), rfl, rfl, trivial⟩, hS.F ht⟩) hS.2.2 dX9_best_12
def w_X9_image : List Cond := .code yX9_image cX9_image 3 (some .int) :: ([.constant RX9 88 (-1000001), .fieldLink RX9 44 "LineCites" "images" "[LLineCites$Image;", .fieldLink RX9 19 "LineCites" "now" "LLineCites$Work;", .methodLink RX9 248 yX8_lines, .instanceMethod yX8_lines, .selects RX8 yX8_lines yX8_lines, .initialized RX8, .code yX8_lines cX8_lines 1 (some .int), .fieldLink RX8 33 "LineCites$Work" "lines" "I", .constant RX9 137 (-1000002)] ++ wsX90 ++ wsX80)
set_option maxRecDepth 20000 in
theorem g_X9_image_X8_lines : GoodIn w_X9_image (wsV RX9 248 RX8 yX8_lines w_X8_lines) := goodIn_r _ [4, 5, 6, 7, 8, 9, 25, 26, 27, 28, 29, 30, 31, 32] rfl (by decide +kernel)
set_option maxHeartbeats 4000000 in
set_option maxRecDepth 100000 in
theorem c_X9_image (l : Launch) (D : va_G) (h0 : Nat) (i_0 : Int32) (a_tape : Nat) (a_now : Nat) (a_draft : Nat) (a_reader : Nat) (a_acts : Nat) (a_images : Nat) (a_one : Nat) (a_other : Nat) (a_third : Nat) (a_spans : Nat) (a_back : Nat) (a_span : Nat) (a_middle : Nat) (a_reached : Nat) (b_sc : Nat) (b_sp : Nat) (b_cp : Nat) (b_sn : Nat) (b_sl : Nat) (k_i : ClassId) : Met l yX9_image w_X9_image ({ frames := 1, cells := 0, slots := 0, locals := 20 }) (va_Pc [.ref h0, .int i_0] (fun U => va_P D vwCl [(h0, .inr (9, [.ref a_tape, .ref a_now, .ref a_draft, .ref a_reader, .ref a_acts, .ref a_images, .ref a_one, .ref a_other, .ref a_third, .ref a_spans, .ref a_back, .ref a_span, .ref a_middle, .ref a_reached])), (a_now, .inr (8, [.ref b_sc, .ref b_sp, .ref b_cp, .ref b_sn, .ref b_sl, .int 0, .int 0, .int 0])), (a_images, .inl (k_i, 2, .inr (.inr (.inr (.inr (fun _ => none))))))] U.heap ∧ va_K D vwCl [(k_i, .object RX1)] U)) (va_Qi (fun (r : Int32) (_ : Unit) => r = sp_rng i_0 1 (-1000002) (-1000001)) (fun _ _ => True) (fun _ => False)) 0 0 (fun _ => False) := by
  refine Met.ofW (cc := cX9_image) (maxL := 3) (ret := (some .int)) (by decide) rfl ?_
  intro p e s m args below meth c s₁ B hml hv
  obtain ⟨rfl, hP, hK⟩ := hv
  have hx := B.exec
  have hb := B.bytes
  have hr := B.returns
  have hts := atoms_spec (ws := w_X9_image) B.pre
  have hown : s.vm.findClass RX9 = some m.cls := findClass_of_methodNamed B.named
  have hlocks := B.notSynchronized
  have hS : va_S (fun _ : Nat => False) s.heap s.heap [] := va_S.rf
  have hP : va_P D vwCl [(h0, .inr (9, [.ref a_tape, .ref a_now, .ref a_draft, .ref a_reader, .ref a_acts, .ref a_images, .ref a_one, .ref a_other, .ref a_third, .ref a_spans, .ref a_back, .ref a_span, .ref a_middle, .ref a_reached])), (a_now, .inr (8, [.ref b_sc, .ref b_sp, .ref b_cp, .ref b_sn, .ref b_sl, .int 0, .int 0, .int 0])), (a_images, .inl (k_i, 2, .inr (.inr (.inr (.inr (fun _ => none))))))] s.heap := hP
  have hl := lv_entry ([.ref h0, .int i_0]) (n := 3) (Nat.le_of_ble_eq_true rfl)
  rw [lg_entry_eq]
  generalize (lg_sl ([.ref h0, .int i_0]) ++ List.replicate (3 - (lg_sl ([.ref h0, .int i_0])).length) Slot.unset).toArray = ls at hl ⊢
  have hl : lv_has ls 3 [(0, .ref h0), (1, .int i_0)] := hl
  obtain ⟨H, hHe⟩ : ∃ H : Heap, H = s.heap := ⟨_, rfl⟩
  rw [← hHe] at hP
  have hS : va_S (fun _ : Nat => False) s.heap H [] := by rw [hHe]; exact hS
  refine pw_heap hHe ?_
  refine lv_iload_n hx hb dX9_image_0 rfl (lv_at hl 1 rfl) ?_
  refine lv_if_lt (tgt := 13) hx hb dX9_image_1 (by decide) (fun c1 => ?_) (fun c1 => ?_)
  · have nc1 : i_0.toInt < 0 := pw_lt c1 rfl (by decide)
    refine lv_ldc hx hb hown (hts (.constant RX9 88 (-1000001)) (List.mem_of_getElem? (i := 1) rfl)) dX9_image_13 ?_
    exact W.iret (v := (-1000001)) hx hb hr (fun t ht hW => ⟨⟨(-1000001), (), rfl, sp_out (by omega), trivial⟩, hS.F ht⟩) hS.2.2 dX9_image_15
  · have nc1 : 0 ≤ i_0.toInt := pw_nlt c1 rfl (by decide)
    refine lv_iload_n hx hb dX9_image_4 rfl (lv_at hl 1 rfl) ?_
    refine lv_aload_n hx hb dX9_image_5 rfl (lv_at hl 0 rfl) ?_
    refine va_get (D := D) (ci := 9) (v := .ref a_images) (C := RX9) (T := TX9) (N := 14) hx hb hts (fun _ h => List.mem_cons_of_mem _ (List.mem_append_left _ (List.mem_append_right _ h))) hown hK hP 0 rfl rfl 5 (by decide) (hts (.fieldLink RX9 44 "LineCites" "images" "[LLineCites$Image;") (List.mem_of_getElem? (i := 2) rfl)) (fun _ h9 => h9) rfl dX9_image_6 ?_
    refine va_alen (v := 2) hx hb hK hP 2 0 rfl rfl (by decide) dX9_image_9 ?_
    refine lv_icmp_lt (tgt := 16) hx hb dX9_image_10 (by decide) (fun c2 => ?_) (fun c2 => ?_)
    · have nc2 : i_0.toInt < 2 := pw_lt c2 rfl (by decide)
      refine lv_aload_n hx hb dX9_image_16 rfl (lv_at hl 0 rfl) ?_
      refine va_get (D := D) (ci := 9) (v := .ref a_now) (C := RX9) (T := TX9) (N := 14) hx hb hts (fun _ h => List.mem_cons_of_mem _ (List.mem_append_left _ (List.mem_append_right _ h))) hown hK hP 0 rfl rfl 1 (by decide) (hts (.fieldLink RX9 19 "LineCites" "now" "LLineCites$Work;") (List.mem_of_getElem? (i := 3) rfl)) (fun _ h9 => h9) rfl dX9_image_17 ?_
      have hPc := hP.sub (ws' := [(a_now, .inr (8, [.ref b_sc, .ref b_sp, .ref b_cp, .ref b_sn, .ref b_sl, .int 0, .int 0, .int 0]))]) [1] rfl
      have hKc := hK.sub (tys' := []) [] rfl
      refine va_calli (va_runV (As := []) (rest := []) ⟨hx, hb, hml, hown, hts⟩ (c_X8_lines l D a_now b_sc b_sp b_cp b_sn b_sl) (cwV 0 hts g_X9_image_X8_lines rfl rfl rfl (by decide +kernel) ⟨Nat.le_of_ble_eq_true rfl, Nat.le_of_ble_eq_true rfl⟩) ⟨fun a U g mk q => by obtain ⟨q0, qP, qK⟩ := q; exact ⟨q0, qP, va_K.moved (u := U) (U := U.calling g mk a) (Vm.Alike.refl U.vm) qK⟩, va_recv hKc hPc (ci := 8) (q0 := 0) rfl rfl, fun U hU hW => ⟨rfl, by rw [hU]; exact hPc, va_K.moved hW.alike hKc⟩⟩ rfl rfl hl.1 rfl (lv_room (Nat.le_of_ble_eq_true rfl)) dX9_image_20 ⟨Nat.le_of_ble_eq_true rfl, Nat.le_of_ble_eq_true rfl⟩) hS (fun _ _ h => h.elim) (fun _ h => h.elim) (fun r3 u t H1 locs ht hvm hw hB hz1 hk1 hS => ?_)
      have hP := pw_keep hP (fun q hq => hk1 q hq (fun h => h))
      generalize H1 = H at hP hS ⊢
      refine W.widen (k := 0) (n := 0) (Nat.le_of_ble_eq_true rfl) (Nat.le_of_ble_eq_true rfl) ?_
      obtain rfl : r3 = 0 := hw
      refine lv_if_ne (tgt := 29) hx hb dX9_image_23 (by decide) (fun c4 => absurd (by decide) c4) (fun c4 => ?_)
      refine lv_ldc hx hb hown (hts (.constant RX9 137 (-1000002)) (List.mem_of_getElem? (i := 10) rfl)) dX9_image_26 ?_
      exact W.iret (v := (-1000002)) hx hb hr (fun t ht hW => ⟨⟨(-1000002), (), rfl, sp_in (by omega) (by omega), trivial⟩, hS.F ht⟩) hS.2.2 dX9_image_28
    · have nc2 : 2 ≤ i_0.toInt := pw_nlt c2 rfl (by decide)
      refine lv_ldc hx hb hown (hts (.constant RX9 88 (-1000001)) (List.mem_of_getElem? (i := 1) rfl)) dX9_image_13 ?_
      exact W.iret (v := (-1000001)) hx hb hr (fun t ht hW => ⟨⟨(-1000001), (), rfl, sp_out (by omega), trivial⟩, hS.F ht⟩) hS.2.2 dX9_image_15
def w_X9_restore : List Cond := .code yX9_restore cX9_restore 3 (some .int) :: ([.constant RX9 88 (-1000001), .fieldLink RX9 44 "LineCites" "images" "[LLineCites$Image;", .constant RX9 137 (-1000002)] ++ wsX90)
set_option maxHeartbeats 4000000 in
set_option maxRecDepth 100000 in
theorem c_X9_restore (l : Launch) (D : va_G) (h0 : Nat) (i_0 : Int32) (a_tape : Nat) (a_now : Nat) (a_draft : Nat) (a_reader : Nat) (a_acts : Nat) (a_images : Nat) (a_one : Nat) (a_other : Nat) (a_third : Nat) (a_spans : Nat) (a_back : Nat) (a_span : Nat) (a_middle : Nat) (a_reached : Nat) (k_i : ClassId) : Met l yX9_restore w_X9_restore ({ frames := 0, cells := 0, slots := 0, locals := 0 }) (va_Pc [.ref h0, .int i_0] (fun U => va_P D vwCl [(h0, .inr (9, [.ref a_tape, .ref a_now, .ref a_draft, .ref a_reader, .ref a_acts, .ref a_images, .ref a_one, .ref a_other, .ref a_third, .ref a_spans, .ref a_back, .ref a_span, .ref a_middle, .ref a_reached])), (a_images, .inl (k_i, 2, .inr (.inr (.inr (.inr (fun _ => none))))))] U.heap ∧ va_K D vwCl [(k_i, .object RX1)] U)) (va_Qi (fun (r : Int32) (_ : Unit) => r = sp_rng i_0 1 (-1000002) (-1000001)) (fun _ _ => True) (fun _ => False)) 0 0 (fun _ => False) := by
  refine Met.ofW (cc := cX9_restore) (maxL := 3) (ret := (some .int)) (by decide) rfl ?_
  intro p e s m args below meth c s₁ B hml hv
  obtain ⟨rfl, hP, hK⟩ := hv
  have hx := B.exec
  have hb := B.bytes
  have hr := B.returns
  have hts := atoms_spec (ws := w_X9_restore) B.pre
  have hown : s.vm.findClass RX9 = some m.cls := findClass_of_methodNamed B.named
  have hlocks := B.notSynchronized
  have hS : va_S (fun _ : Nat => False) s.heap s.heap [] := va_S.rf
  have hP : va_P D vwCl [(h0, .inr (9, [.ref a_tape, .ref a_now, .ref a_draft, .ref a_reader, .ref a_acts, .ref a_images, .ref a_one, .ref a_other, .ref a_third, .ref a_spans, .ref a_back, .ref a_span, .ref a_middle, .ref a_reached])), (a_images, .inl (k_i, 2, .inr (.inr (.inr (.inr (fun _ => none))))))] s.heap := hP
  have hl := lv_entry ([.ref h0, .int i_0]) (n := 3) (Nat.le_of_ble_eq_true rfl)
  rw [lg_entry_eq]
  generalize (lg_sl ([.ref h0, .int i_0]) ++ List.replicate (3 - (lg_sl ([.ref h0, .int i_0])).length) Slot.unset).toArray = ls at hl ⊢
  have hl : lv_has ls 3 [(0, .ref h0), (1, .int i_0)] := hl
  obtain ⟨H, hHe⟩ : ∃ H : Heap, H = s.heap := ⟨_, rfl⟩
  rw [← hHe] at hP
  have hS : va_S (fun _ : Nat => False) s.heap H [] := by rw [hHe]; exact hS
  refine pw_heap hHe ?_
  refine lv_iload_n hx hb dX9_restore_0 rfl (lv_at hl 1 rfl) ?_
  refine lv_if_lt (tgt := 13) hx hb dX9_restore_1 (by decide) (fun c1 => ?_) (fun c1 => ?_)
  · have nc1 : i_0.toInt < 0 := pw_lt c1 rfl (by decide)
    refine lv_ldc hx hb hown (hts (.constant RX9 88 (-1000001)) (List.mem_of_getElem? (i := 1) rfl)) dX9_restore_13 ?_
    exact W.iret (v := (-1000001)) hx hb hr (fun t ht hW => ⟨⟨(-1000001), (), rfl, sp_out (by omega), trivial⟩, hS.F ht⟩) hS.2.2 dX9_restore_15
  · have nc1 : 0 ≤ i_0.toInt := pw_nlt c1 rfl (by decide)
    refine lv_iload_n hx hb dX9_restore_4 rfl (lv_at hl 1 rfl) ?_
    refine lv_aload_n hx hb dX9_restore_5 rfl (lv_at hl 0 rfl) ?_
    refine va_get (D := D) (ci := 9) (v := .ref a_images) (C := RX9) (T := TX9) (N := 14) hx hb hts (fun _ h => List.mem_cons_of_mem _ (List.mem_append_right _ h)) hown hK hP 0 rfl rfl 5 (by decide) (hts (.fieldLink RX9 44 "LineCites" "images" "[LLineCites$Image;") (List.mem_of_getElem? (i := 2) rfl)) (fun _ h9 => h9) rfl dX9_restore_6 ?_
    refine va_alen (v := 2) hx hb hK hP 1 0 rfl rfl (by decide) dX9_restore_9 ?_
    refine lv_icmp_lt (tgt := 16) hx hb dX9_restore_10 (by decide) (fun c2 => ?_) (fun c2 => ?_)
    · have nc2 : i_0.toInt < 2 := pw_lt c2 rfl (by decide)
      refine lv_aload_n hx hb dX9_restore_16 rfl (lv_at hl 0 rfl) ?_
      refine va_get (D := D) (ci := 9) (v := .ref a_images) (C := RX9) (T := TX9) (N := 14) hx hb hts (fun _ h => List.mem_cons_of_mem _ (List.mem_append_right _ h)) hown hK hP 0 rfl rfl 5 (by decide) (hts (.fieldLink RX9 44 "LineCites" "images" "[LLineCites$Image;") (List.mem_of_getElem? (i := 2) rfl)) (fun _ h9 => h9) rfl dX9_restore_17 ?_
      refine lv_iload_n hx hb dX9_restore_20 rfl (lv_at hl 1 rfl) ?_
      refine va_aldq hx hb hK hP 1 0 rfl rfl (vp_in_iff.mpr ⟨by omega, by omega⟩) dX9_restore_21 ?_
      refine W.eq (g2 := F0 m 22 ls [.null]) rfl ?_
      refine lv_astore_nN (lv' := [(2, .null), (0, .ref h0), (1, .int i_0)]) hx hb dX9_restore_22 rfl hl (by decide) rfl (fun ls hl => ?_)
      refine lv_aload_nN hx hb dX9_restore_23 rfl (lv_at hl 0 rfl) ?_
      refine lv_ifnonnullN hx hb dX9_restore_24 ?_
      refine lv_ldc hx hb hown (hts (.constant RX9 137 (-1000002)) (List.mem_of_getElem? (i := 3) rfl)) dX9_restore_27 ?_
      exact W.iret (v := (-1000002)) hx hb hr (fun t ht hW => ⟨⟨(-1000002), (), rfl, sp_in (by omega) (by omega), trivial⟩, hS.F ht⟩) hS.2.2 dX9_restore_29
    · have nc2 : 2 ≤ i_0.toInt := pw_nlt c2 rfl (by decide)
      refine lv_ldc hx hb hown (hts (.constant RX9 88 (-1000001)) (List.mem_of_getElem? (i := 1) rfl)) dX9_restore_13 ?_
      exact W.iret (v := (-1000001)) hx hb hr (fun t ht hW => ⟨⟨(-1000001), (), rfl, sp_out (by omega), trivial⟩, hS.F ht⟩) hS.2.2 dX9_restore_15
def w_X9_count : List Cond := .code yX9_count cX9_count 2 (some .int) :: ([.constant RX9 88 (-1000001), .fieldLink RX9 19 "LineCites" "now" "LLineCites$Work;", .methodLink RX9 248 yX8_lines, .instanceMethod yX8_lines, .selects RX8 yX8_lines yX8_lines, .initialized RX8, .code yX8_lines cX8_lines 1 (some .int), .fieldLink RX8 33 "LineCites$Work" "lines" "I", .methodLink RX9 126 yX8_editions, .instanceMethod yX8_editions, .selects RX8 yX8_editions yX8_editions, .code yX8_editions cX8_editions 1 (some .int), .fieldLink RX8 37 "LineCites$Work" "editions" "I", .methodLink RX9 339 yX8_stretches, .instanceMethod yX8_stretches, .selects RX8 yX8_stretches yX8_stretches, .code yX8_stretches cX8_stretches 3 (some .int), .methodLink RX9 188 yX8_citations, .instanceMethod yX8_citations, .selects RX8 yX8_citations yX8_citations, .code yX8_citations cX8_citations 3 (some .int), .methodLink RX8 97 yX8_hasCitation, .instanceMethod yX8_hasCitation, .selects RX8 yX8_hasCitation yX8_hasCitation, .code yX8_hasCitation cX8_hasCitation 2 (some .boolean), .methodLink RX8 89 yX8_citedPart, .instanceMethod yX8_citedPart, .selects RX8 yX8_citedPart yX8_citedPart, .code yX8_citedPart cX8_citedPart 4 (some .int), .fieldLink RX8 18 "LineCites$Work" "citedParts" "[I", .methodLink RX9 194 yX8_seen, .instanceMethod yX8_seen, .selects RX8 yX8_seen yX8_seen, .code yX8_seen cX8_seen 1 (some .int), .fieldLink RX8 40 "LineCites$Work" "seen" "I", .fieldLink RX9 38 "LineCites" "acts" "LLineCites$Acts;", .methodLink RX9 136 yX0_size, .instanceMethod yX0_size, .selects RX0 yX0_size yX0_size, .initialized RX0, .code yX0_size cX0_size 1 (some .int), .fieldLink RX0 17 "LineCites$Acts" "size" "I", .fieldLink RX9 10 "LineCites" "tape" "LLineCites$Tape;", .methodLink RX9 93 yX7_size, .instanceMethod yX7_size, .selects RX7 yX7_size yX7_size, .initialized RX7, .code yX7_size cX7_size 1 (some .int), .fieldLink RX7 15 "LineCites$Tape" "size" "I"] ++ wsX90 ++ wsX80 ++ wsX00 ++ wsX70)
set_option maxRecDepth 20000 in
theorem g_X9_count_X8_lines : GoodIn w_X9_count (wsV RX9 248 RX8 yX8_lines w_X8_lines) := goodIn_r _ [3, 4, 5, 6, 7, 8, 64, 65, 66, 67, 68, 69, 70, 71] rfl (by decide +kernel)
set_option maxRecDepth 20000 in
theorem g_X9_count_X8_editions : GoodIn w_X9_count (wsV RX9 126 RX8 yX8_editions w_X8_editions) := goodIn_r _ [9, 10, 11, 6, 12, 13, 64, 65, 66, 67, 68, 69, 70, 71] rfl (by decide +kernel)
set_option maxRecDepth 20000 in
theorem g_X9_count_X8_stretches : GoodIn w_X9_count (wsV RX9 339 RX8 yX8_stretches w_X8_stretches) := goodIn_r _ [14, 15, 16, 6, 17, 13, 64, 65, 66, 67, 68, 69, 70, 71] rfl (by decide +kernel)
set_option maxRecDepth 20000 in
theorem g_X9_count_X8_citations : GoodIn w_X9_count (wsV RX9 188 RX8 yX8_citations w_X8_citations) := goodIn_r _ [18, 19, 20, 6, 21, 22, 23, 24, 6, 25, 26, 27, 28, 29, 30, 64, 65, 66, 67, 68, 69, 70, 71] rfl (by decide +kernel)
set_option maxRecDepth 20000 in
theorem g_X9_count_X8_seen : GoodIn w_X9_count (wsV RX9 194 RX8 yX8_seen w_X8_seen) := goodIn_r _ [31, 32, 33, 6, 34, 35, 64, 65, 66, 67, 68, 69, 70, 71] rfl (by decide +kernel)
set_option maxRecDepth 20000 in
theorem g_X9_count_X0_size : GoodIn w_X9_count (wsV RX9 136 RX0 yX0_size w_X0_size) := goodIn_r _ [37, 38, 39, 40, 41, 42, 72, 73, 74] rfl (by decide +kernel)
set_option maxRecDepth 20000 in
theorem g_X9_count_X7_size : GoodIn w_X9_count (wsV RX9 93 RX7 yX7_size w_X7_size) := goodIn_r _ [44, 45, 46, 47, 48, 49, 75, 76, 77] rfl (by decide +kernel)
set_option maxHeartbeats 4000000 in
set_option maxRecDepth 100000 in
theorem c_X9_count (l : Launch) (D : va_G) (h0 : Nat) (i_0 : Int32) (a_tape : Nat) (a_now : Nat) (a_draft : Nat) (a_reader : Nat) (a_acts : Nat) (a_images : Nat) (a_one : Nat) (a_other : Nat) (a_third : Nat) (a_spans : Nat) (a_back : Nat) (a_span : Nat) (a_middle : Nat) (a_reached : Nat) (b_sc : Nat) (b_sp : Nat) (b_cp : Nat) (b_sn : Nat) (b_sl : Nat) (k_c : ClassId) (a_ring : Nat) (a_b : Nat) : Met l yX9_count w_X9_count ({ frames := 3, cells := 0, slots := 0, locals := 66 }) (va_Pc [.ref h0, .int i_0] (fun U => va_P D vwCl [(h0, .inr (9, [.ref a_tape, .ref a_now, .ref a_draft, .ref a_reader, .ref a_acts, .ref a_images, .ref a_one, .ref a_other, .ref a_third, .ref a_spans, .ref a_back, .ref a_span, .ref a_middle, .ref a_reached])), (a_now, .inr (8, [.ref b_sc, .ref b_sp, .ref b_cp, .ref b_sn, .ref b_sl, .int 0, .int 0, .int 0])), (b_cp, .inl (k_c, 32, .inl (fun _ => 0))), (a_acts, .inr (0, [.ref a_ring, .int 0, .int 0])), (a_tape, .inr (7, [.ref a_b, .int 0, .int 0]))] U.heap ∧ va_K D vwCl [(k_c, .int)] U)) (va_Qi (fun (r : Int32) (_ : Unit) => r = sp_rng i_0 6 0 (-1000001)) (fun _ _ => True) (fun _ => False)) 0 0 (fun _ => False) := by
  refine Met.ofW (cc := cX9_count) (maxL := 2) (ret := (some .int)) (by decide) rfl ?_
  intro p e s m args below meth c s₁ B hml hv
  obtain ⟨rfl, hP, hK⟩ := hv
  have hx := B.exec
  have hb := B.bytes
  have hr := B.returns
  have hts := atoms_spec (ws := w_X9_count) B.pre
  have hown : s.vm.findClass RX9 = some m.cls := findClass_of_methodNamed B.named
  have hlocks := B.notSynchronized
  have hS : va_S (fun _ : Nat => False) s.heap s.heap [] := va_S.rf
  have hP : va_P D vwCl [(h0, .inr (9, [.ref a_tape, .ref a_now, .ref a_draft, .ref a_reader, .ref a_acts, .ref a_images, .ref a_one, .ref a_other, .ref a_third, .ref a_spans, .ref a_back, .ref a_span, .ref a_middle, .ref a_reached])), (a_now, .inr (8, [.ref b_sc, .ref b_sp, .ref b_cp, .ref b_sn, .ref b_sl, .int 0, .int 0, .int 0])), (b_cp, .inl (k_c, 32, .inl (fun _ => 0))), (a_acts, .inr (0, [.ref a_ring, .int 0, .int 0])), (a_tape, .inr (7, [.ref a_b, .int 0, .int 0]))] s.heap := hP
  have hl := lv_entry ([.ref h0, .int i_0]) (n := 2) (Nat.le_of_ble_eq_true rfl)
  rw [lg_entry_eq]
  generalize (lg_sl ([.ref h0, .int i_0]) ++ List.replicate (2 - (lg_sl ([.ref h0, .int i_0])).length) Slot.unset).toArray = ls at hl ⊢
  have hl : lv_has ls 2 [(0, .ref h0), (1, .int i_0)] := hl
  obtain ⟨H, hHe⟩ : ∃ H : Heap, H = s.heap := ⟨_, rfl⟩
  rw [← hHe] at hP
  have hS : va_S (fun _ : Nat => False) s.heap H [] := by rw [hHe]; exact hS
  refine pw_heap hHe ?_
  refine lv_iload_n hx hb dX9_count_0 rfl (lv_at hl 1 rfl) ?_
  rcases pw_sw7 i_0 with h8 | rfl | rfl | rfl | rfl | rfl | rfl | rfl
  · refine lv_tableOut (tgt := 100) hx hb dX9_count_1 h8 (by decide) ?_
    refine lv_ldc hx hb hown (hts (.constant RX9 88 (-1000001)) (List.mem_of_getElem? (i := 1) rfl)) dX9_count_100 ?_
    exact W.iret (v := (-1000001)) hx hb hr (fun t ht hW => ⟨⟨(-1000001), (), rfl, sp_out (by omega), trivial⟩, hS.F ht⟩) hS.2.2 dX9_count_102
  · refine lv_tableIn (tgt := 44) hx hb dX9_count_1 (by decide) (by decide) rfl (by decide) ?_
    refine lv_aload_n hx hb dX9_count_44 rfl (lv_at hl 0 rfl) ?_
    refine va_get (D := D) (ci := 9) (v := .ref a_now) (C := RX9) (T := TX9) (N := 14) hx hb hts (fun _ h => List.mem_cons_of_mem _ (List.mem_append_left _ (List.mem_append_left _ (List.mem_append_left _ (List.mem_append_right _ h))))) hown hK hP 0 rfl rfl 1 (by decide) (hts (.fieldLink RX9 19 "LineCites" "now" "LLineCites$Work;") (List.mem_of_getElem? (i := 2) rfl)) (fun _ h9 => h9) rfl dX9_count_45 ?_
    have hPc := hP.sub (ws' := [(a_now, .inr (8, [.ref b_sc, .ref b_sp, .ref b_cp, .ref b_sn, .ref b_sl, .int 0, .int 0, .int 0]))]) [1] rfl
    have hKc := hK.sub (tys' := []) [] rfl
    refine va_calli (va_runV (As := []) (rest := []) ⟨hx, hb, hml, hown, hts⟩ (c_X8_lines l D a_now b_sc b_sp b_cp b_sn b_sl) (cwV 0 hts g_X9_count_X8_lines rfl rfl rfl (by decide +kernel) ⟨Nat.le_of_ble_eq_true rfl, Nat.le_of_ble_eq_true rfl⟩) ⟨fun a U g mk q => by obtain ⟨q0, qP, qK⟩ := q; exact ⟨q0, qP, va_K.moved (u := U) (U := U.calling g mk a) (Vm.Alike.refl U.vm) qK⟩, va_recv hKc hPc (ci := 8) (q0 := 0) rfl rfl, fun U hU hW => ⟨rfl, by rw [hU]; exact hPc, va_K.moved hW.alike hKc⟩⟩ rfl rfl hl.1 rfl (lv_room (Nat.le_of_ble_eq_true rfl)) dX9_count_48 ⟨Nat.le_of_ble_eq_true rfl, Nat.le_of_ble_eq_true rfl⟩) hS (fun _ _ h => h.elim) (fun _ h => h.elim) (fun r1 u t H1 locs ht hvm hw hB hz1 hk1 hS => ?_)
    have hP := pw_keep hP (fun q hq => hk1 q hq (fun h => h))
    generalize H1 = H at hP hS ⊢
    refine W.widen (k := 0) (n := 0) (Nat.le_of_ble_eq_true rfl) (Nat.le_of_ble_eq_true rfl) ?_
    obtain rfl : r1 = 0 := hw
    exact W.iret (v := 0) hx hb hr (fun t ht hW => ⟨⟨0, (), rfl, rfl, trivial⟩, hS.F ht⟩) hS.2.2 dX9_count_51
  · refine lv_tableIn (tgt := 52) hx hb dX9_count_1 (by decide) (by decide) rfl (by decide) ?_
    refine lv_aload_n hx hb dX9_count_52 rfl (lv_at hl 0 rfl) ?_
    refine va_get (D := D) (ci := 9) (v := .ref a_now) (C := RX9) (T := TX9) (N := 14) hx hb hts (fun _ h => List.mem_cons_of_mem _ (List.mem_append_left _ (List.mem_append_left _ (List.mem_append_left _ (List.mem_append_right _ h))))) hown hK hP 0 rfl rfl 1 (by decide) (hts (.fieldLink RX9 19 "LineCites" "now" "LLineCites$Work;") (List.mem_of_getElem? (i := 2) rfl)) (fun _ h9 => h9) rfl dX9_count_53 ?_
    have hPc := hP.sub (ws' := [(a_now, .inr (8, [.ref b_sc, .ref b_sp, .ref b_cp, .ref b_sn, .ref b_sl, .int 0, .int 0, .int 0]))]) [1] rfl
    have hKc := hK.sub (tys' := []) [] rfl
    refine va_calli (va_runV (As := []) (rest := []) ⟨hx, hb, hml, hown, hts⟩ (c_X8_editions l D a_now b_sc b_sp b_cp b_sn b_sl) (cwV 0 hts g_X9_count_X8_editions rfl rfl rfl (by decide +kernel) ⟨Nat.le_of_ble_eq_true rfl, Nat.le_of_ble_eq_true rfl⟩) ⟨fun a U g mk q => by obtain ⟨q0, qP, qK⟩ := q; exact ⟨q0, qP, va_K.moved (u := U) (U := U.calling g mk a) (Vm.Alike.refl U.vm) qK⟩, va_recv hKc hPc (ci := 8) (q0 := 0) rfl rfl, fun U hU hW => ⟨rfl, by rw [hU]; exact hPc, va_K.moved hW.alike hKc⟩⟩ rfl rfl hl.1 rfl (lv_room (Nat.le_of_ble_eq_true rfl)) dX9_count_56 ⟨Nat.le_of_ble_eq_true rfl, Nat.le_of_ble_eq_true rfl⟩) hS (fun _ _ h => h.elim) (fun _ h => h.elim) (fun r2 u t H1 locs ht hvm hw hB hz1 hk1 hS => ?_)
    have hP := pw_keep hP (fun q hq => hk1 q hq (fun h => h))
    generalize H1 = H at hP hS ⊢
    refine W.widen (k := 0) (n := 0) (Nat.le_of_ble_eq_true rfl) (Nat.le_of_ble_eq_true rfl) ?_
    obtain rfl : r2 = 0 := hw
    exact W.iret (v := 0) hx hb hr (fun t ht hW => ⟨⟨0, (), rfl, rfl, trivial⟩, hS.F ht⟩) hS.2.2 dX9_count_59
  · refine lv_tableIn (tgt := 60) hx hb dX9_count_1 (by decide) (by decide) rfl (by decide) ?_
    refine lv_aload_n hx hb dX9_count_60 rfl (lv_at hl 0 rfl) ?_
    refine va_get (D := D) (ci := 9) (v := .ref a_now) (C := RX9) (T := TX9) (N := 14) hx hb hts (fun _ h => List.mem_cons_of_mem _ (List.mem_append_left _ (List.mem_append_left _ (List.mem_append_left _ (List.mem_append_right _ h))))) hown hK hP 0 rfl rfl 1 (by decide) (hts (.fieldLink RX9 19 "LineCites" "now" "LLineCites$Work;") (List.mem_of_getElem? (i := 2) rfl)) (fun _ h9 => h9) rfl dX9_count_61 ?_
    have hPc := hP.sub (ws' := [(a_now, .inr (8, [.ref b_sc, .ref b_sp, .ref b_cp, .ref b_sn, .ref b_sl, .int 0, .int 0, .int 0]))]) [1] rfl
    have hKc := hK.sub (tys' := []) [] rfl
    refine va_calli (va_runV (As := []) (rest := []) ⟨hx, hb, hml, hown, hts⟩ (c_X8_stretches l D a_now b_sc b_sp b_cp b_sn b_sl) (cwV 0 hts g_X9_count_X8_stretches rfl rfl rfl (by decide +kernel) ⟨Nat.le_of_ble_eq_true rfl, Nat.le_of_ble_eq_true rfl⟩) ⟨fun a U g mk q => by obtain ⟨q0, qP, qK⟩ := q; exact ⟨q0, qP, va_K.moved (u := U) (U := U.calling g mk a) (Vm.Alike.refl U.vm) qK⟩, va_recv hKc hPc (ci := 8) (q0 := 0) rfl rfl, fun U hU hW => ⟨rfl, by rw [hU]; exact hPc, va_K.moved hW.alike hKc⟩⟩ rfl rfl hl.1 rfl (lv_room (Nat.le_of_ble_eq_true rfl)) dX9_count_64 ⟨Nat.le_of_ble_eq_true rfl, Nat.le_of_ble_eq_true rfl⟩) hS (fun _ _ h => h.elim) (fun _ h => h.elim) (fun r3 u t H1 locs ht hvm hw hB hz1 hk1 hS => ?_)
    have hP := pw_keep hP (fun q hq => hk1 q hq (fun h => h))
    generalize H1 = H at hP hS ⊢
    refine W.widen (k := 0) (n := 0) (Nat.le_of_ble_eq_true rfl) (Nat.le_of_ble_eq_true rfl) ?_
    obtain rfl : r3 = 0 := hw
    exact W.iret (v := 0) hx hb hr (fun t ht hW => ⟨⟨0, (), rfl, rfl, trivial⟩, hS.F ht⟩) hS.2.2 dX9_count_67
  · refine lv_tableIn (tgt := 68) hx hb dX9_count_1 (by decide) (by decide) rfl (by decide) ?_
    refine lv_aload_n hx hb dX9_count_68 rfl (lv_at hl 0 rfl) ?_
    refine va_get (D := D) (ci := 9) (v := .ref a_now) (C := RX9) (T := TX9) (N := 14) hx hb hts (fun _ h => List.mem_cons_of_mem _ (List.mem_append_left _ (List.mem_append_left _ (List.mem_append_left _ (List.mem_append_right _ h))))) hown hK hP 0 rfl rfl 1 (by decide) (hts (.fieldLink RX9 19 "LineCites" "now" "LLineCites$Work;") (List.mem_of_getElem? (i := 2) rfl)) (fun _ h9 => h9) rfl dX9_count_69 ?_
    have hPc := hP.sub (ws' := [(a_now, .inr (8, [.ref b_sc, .ref b_sp, .ref b_cp, .ref b_sn, .ref b_sl, .int 0, .int 0, .int 0])), (b_cp, .inl (k_c, 32, .inl (fun _ => 0)))]) [1, 2] rfl
    have hKc := hK.sub (tys' := [(k_c, .int)]) [0] rfl
    refine va_calli (va_runV (As := []) (rest := []) ⟨hx, hb, hml, hown, hts⟩ (c_X8_citations l D a_now b_sc b_sp b_cp b_sn b_sl k_c) (cwV 0 hts g_X9_count_X8_citations rfl rfl rfl (by decide +kernel) ⟨Nat.le_of_ble_eq_true rfl, Nat.le_of_ble_eq_true rfl⟩) ⟨fun a U g mk q => by obtain ⟨q0, qP, qK⟩ := q; exact ⟨q0, qP, va_K.moved (u := U) (U := U.calling g mk a) (Vm.Alike.refl U.vm) qK⟩, va_recv hKc hPc (ci := 8) (q0 := 0) rfl rfl, fun U hU hW => ⟨rfl, by rw [hU]; exact hPc, va_K.moved hW.alike hKc⟩⟩ rfl rfl hl.1 rfl (lv_room (Nat.le_of_ble_eq_true rfl)) dX9_count_72 ⟨Nat.le_of_ble_eq_true rfl, Nat.le_of_ble_eq_true rfl⟩) hS (fun _ _ h => h.elim) (fun _ h => h.elim) (fun r4 u t H1 locs ht hvm hw hB hz1 hk1 hS => ?_)
    have hP := pw_keep hP (fun q hq => hk1 q hq (fun h => h))
    generalize H1 = H at hP hS ⊢
    refine W.widen (k := 0) (n := 0) (Nat.le_of_ble_eq_true rfl) (Nat.le_of_ble_eq_true rfl) ?_
    obtain rfl : r4 = 0 := hw
    exact W.iret (v := 0) hx hb hr (fun t ht hW => ⟨⟨0, (), rfl, rfl, trivial⟩, hS.F ht⟩) hS.2.2 dX9_count_75
  · refine lv_tableIn (tgt := 76) hx hb dX9_count_1 (by decide) (by decide) rfl (by decide) ?_
    refine lv_aload_n hx hb dX9_count_76 rfl (lv_at hl 0 rfl) ?_
    refine va_get (D := D) (ci := 9) (v := .ref a_now) (C := RX9) (T := TX9) (N := 14) hx hb hts (fun _ h => List.mem_cons_of_mem _ (List.mem_append_left _ (List.mem_append_left _ (List.mem_append_left _ (List.mem_append_right _ h))))) hown hK hP 0 rfl rfl 1 (by decide) (hts (.fieldLink RX9 19 "LineCites" "now" "LLineCites$Work;") (List.mem_of_getElem? (i := 2) rfl)) (fun _ h9 => h9) rfl dX9_count_77 ?_
    have hPc := hP.sub (ws' := [(a_now, .inr (8, [.ref b_sc, .ref b_sp, .ref b_cp, .ref b_sn, .ref b_sl, .int 0, .int 0, .int 0]))]) [1] rfl
    have hKc := hK.sub (tys' := []) [] rfl
    refine va_calli (va_runV (As := []) (rest := []) ⟨hx, hb, hml, hown, hts⟩ (c_X8_seen l D a_now b_sc b_sp b_cp b_sn b_sl) (cwV 0 hts g_X9_count_X8_seen rfl rfl rfl (by decide +kernel) ⟨Nat.le_of_ble_eq_true rfl, Nat.le_of_ble_eq_true rfl⟩) ⟨fun a U g mk q => by obtain ⟨q0, qP, qK⟩ := q; exact ⟨q0, qP, va_K.moved (u := U) (U := U.calling g mk a) (Vm.Alike.refl U.vm) qK⟩, va_recv hKc hPc (ci := 8) (q0 := 0) rfl rfl, fun U hU hW => ⟨rfl, by rw [hU]; exact hPc, va_K.moved hW.alike hKc⟩⟩ rfl rfl hl.1 rfl (lv_room (Nat.le_of_ble_eq_true rfl)) dX9_count_80 ⟨Nat.le_of_ble_eq_true rfl, Nat.le_of_ble_eq_true rfl⟩) hS (fun _ _ h => h.elim) (fun _ h => h.elim) (fun r5 u t H1 locs ht hvm hw hB hz1 hk1 hS => ?_)
    have hP := pw_keep hP (fun q hq => hk1 q hq (fun h => h))
    generalize H1 = H at hP hS ⊢
    refine W.widen (k := 0) (n := 0) (Nat.le_of_ble_eq_true rfl) (Nat.le_of_ble_eq_true rfl) ?_
    obtain rfl : r5 = 0 := hw
    exact W.iret (v := 0) hx hb hr (fun t ht hW => ⟨⟨0, (), rfl, rfl, trivial⟩, hS.F ht⟩) hS.2.2 dX9_count_83
  · refine lv_tableIn (tgt := 84) hx hb dX9_count_1 (by decide) (by decide) rfl (by decide) ?_
    refine lv_aload_n hx hb dX9_count_84 rfl (lv_at hl 0 rfl) ?_
    refine va_get (D := D) (ci := 9) (v := .ref a_acts) (C := RX9) (T := TX9) (N := 14) hx hb hts (fun _ h => List.mem_cons_of_mem _ (List.mem_append_left _ (List.mem_append_left _ (List.mem_append_left _ (List.mem_append_right _ h))))) hown hK hP 0 rfl rfl 4 (by decide) (hts (.fieldLink RX9 38 "LineCites" "acts" "LLineCites$Acts;") (List.mem_of_getElem? (i := 36) rfl)) (fun _ h9 => h9) rfl dX9_count_85 ?_
    have hPc := hP.sub (ws' := [(a_acts, .inr (0, [.ref a_ring, .int 0, .int 0]))]) [3] rfl
    have hKc := hK.sub (tys' := []) [] rfl
    refine va_calli (va_runV (As := []) (rest := []) ⟨hx, hb, hml, hown, hts⟩ (c_X0_size l D a_acts a_ring) (cwV 0 hts g_X9_count_X0_size rfl rfl rfl (by decide +kernel) ⟨Nat.le_of_ble_eq_true rfl, Nat.le_of_ble_eq_true rfl⟩) ⟨fun a U g mk q => by obtain ⟨q0, qP, qK⟩ := q; exact ⟨q0, qP, va_K.moved (u := U) (U := U.calling g mk a) (Vm.Alike.refl U.vm) qK⟩, va_recv hKc hPc (ci := 0) (q0 := 0) rfl rfl, fun U hU hW => ⟨rfl, by rw [hU]; exact hPc, va_K.moved hW.alike hKc⟩⟩ rfl rfl hl.1 rfl (lv_room (Nat.le_of_ble_eq_true rfl)) dX9_count_88 ⟨Nat.le_of_ble_eq_true rfl, Nat.le_of_ble_eq_true rfl⟩) hS (fun _ _ h => h.elim) (fun _ h => h.elim) (fun r6 u t H1 locs ht hvm hw hB hz1 hk1 hS => ?_)
    have hP := pw_keep hP (fun q hq => hk1 q hq (fun h => h))
    generalize H1 = H at hP hS ⊢
    refine W.widen (k := 0) (n := 0) (Nat.le_of_ble_eq_true rfl) (Nat.le_of_ble_eq_true rfl) ?_
    obtain rfl : r6 = 0 := hw
    exact W.iret (v := 0) hx hb hr (fun t ht hW => ⟨⟨0, (), rfl, rfl, trivial⟩, hS.F ht⟩) hS.2.2 dX9_count_91
  · refine lv_tableIn (tgt := 92) hx hb dX9_count_1 (by decide) (by decide) rfl (by decide) ?_
    refine lv_aload_n hx hb dX9_count_92 rfl (lv_at hl 0 rfl) ?_
    refine va_get (D := D) (ci := 9) (v := .ref a_tape) (C := RX9) (T := TX9) (N := 14) hx hb hts (fun _ h => List.mem_cons_of_mem _ (List.mem_append_left _ (List.mem_append_left _ (List.mem_append_left _ (List.mem_append_right _ h))))) hown hK hP 0 rfl rfl 0 (by decide) (hts (.fieldLink RX9 10 "LineCites" "tape" "LLineCites$Tape;") (List.mem_of_getElem? (i := 43) rfl)) (fun _ h9 => h9) rfl dX9_count_93 ?_
    have hPc := hP.sub (ws' := [(a_tape, .inr (7, [.ref a_b, .int 0, .int 0]))]) [4] rfl
    have hKc := hK.sub (tys' := []) [] rfl
    refine va_calli (va_runV (As := []) (rest := []) ⟨hx, hb, hml, hown, hts⟩ (c_X7_size l D a_tape a_b) (cwV 0 hts g_X9_count_X7_size rfl rfl rfl (by decide +kernel) ⟨Nat.le_of_ble_eq_true rfl, Nat.le_of_ble_eq_true rfl⟩) ⟨fun a U g mk q => by obtain ⟨q0, qP, qK⟩ := q; exact ⟨q0, qP, va_K.moved (u := U) (U := U.calling g mk a) (Vm.Alike.refl U.vm) qK⟩, va_recv hKc hPc (ci := 7) (q0 := 0) rfl rfl, fun U hU hW => ⟨rfl, by rw [hU]; exact hPc, va_K.moved hW.alike hKc⟩⟩ rfl rfl hl.1 rfl (lv_room (Nat.le_of_ble_eq_true rfl)) dX9_count_96 ⟨Nat.le_of_ble_eq_true rfl, Nat.le_of_ble_eq_true rfl⟩) hS (fun _ _ h => h.elim) (fun _ h => h.elim) (fun r7 u t H1 locs ht hvm hw hB hz1 hk1 hS => ?_)
    have hP := pw_keep hP (fun q hq => hk1 q hq (fun h => h))
    generalize H1 = H at hP hS ⊢
    refine W.widen (k := 0) (n := 0) (Nat.le_of_ble_eq_true rfl) (Nat.le_of_ble_eq_true rfl) ?_
    obtain rfl : r7 = 0 := hw
    exact W.iret (v := 0) hx hb hr (fun t ht hW => ⟨⟨0, (), rfl, rfl, trivial⟩, hS.F ht⟩) hS.2.2 dX9_count_99
end
section
theorem dX7_put_0 : decode cX7_put 0 = .ok (.aload_n 0, 1) := by decide +kernel
theorem dX7_put_1 : decode cX7_put 1 = .ok (.getfield 15, 3) := by decide +kernel
theorem dX7_put_4 : decode cX7_put 4 = .ok (.ifCond .lt 15, 3) := by decide +kernel
theorem dX7_put_7 : decode cX7_put 7 = .ok (.aload_n 0, 1) := by decide +kernel
theorem dX7_put_8 : decode cX7_put 8 = .ok (.getfield 15, 3) := by decide +kernel
theorem dX7_put_11 : decode cX7_put 11 = .ok (.aload_n 0, 1) := by decide +kernel
theorem dX7_put_12 : decode cX7_put 12 = .ok (.getfield 9, 3) := by decide +kernel
theorem dX7_put_15 : decode cX7_put 15 = .ok (.arraylength, 1) := by decide +kernel
theorem dX7_put_16 : decode cX7_put 16 = .ok (.if_icmp .lt 5, 3) := by decide +kernel
theorem dX7_put_19 : decode cX7_put 19 = .ok (.iconst 0, 1) := by decide +kernel
theorem dX7_put_20 : decode cX7_put 20 = .ok (.ireturn, 1) := by decide +kernel
theorem dX7_put_21 : decode cX7_put 21 = .ok (.aload_n 0, 1) := by decide +kernel
theorem dX7_put_22 : decode cX7_put 22 = .ok (.getfield 9, 3) := by decide +kernel
theorem dX7_put_25 : decode cX7_put 25 = .ok (.aload_n 0, 1) := by decide +kernel
theorem dX7_put_26 : decode cX7_put 26 = .ok (.getfield 15, 3) := by decide +kernel
theorem dX7_put_29 : decode cX7_put 29 = .ok (.iload_n 1, 1) := by decide +kernel
theorem dX7_put_30 : decode cX7_put 30 = .ok (.i2b, 1) := by decide +kernel
theorem dX7_put_31 : decode cX7_put 31 = .ok (.bastore, 1) := by decide +kernel
theorem dX7_put_32 : decode cX7_put 32 = .ok (.aload_n 0, 1) := by decide +kernel
theorem dX7_put_33 : decode cX7_put 33 = .ok (.dup, 1) := by decide +kernel
theorem dX7_put_34 : decode cX7_put 34 = .ok (.getfield 15, 3) := by decide +kernel
theorem dX7_put_37 : decode cX7_put 37 = .ok (.iconst 1, 1) := by decide +kernel
theorem dX7_put_38 : decode cX7_put 38 = .ok (.iadd, 1) := by decide +kernel
theorem dX7_put_39 : decode cX7_put 39 = .ok (.putfield 15, 3) := by decide +kernel
theorem dX7_put_42 : decode cX7_put 42 = .ok (.iconst 1, 1) := by decide +kernel
theorem dX7_put_43 : decode cX7_put 43 = .ok (.ireturn, 1) := by decide +kernel
theorem dX9_feed_0 : decode cX9_feed 0 = .ok (.iload_n 1, 1) := by decide +kernel
theorem dX9_feed_1 : decode cX9_feed 1 = .ok (.ifCond .lt 10, 3) := by decide +kernel
theorem dX9_feed_4 : decode cX9_feed 4 = .ok (.iload_n 1, 1) := by decide +kernel
theorem dX9_feed_5 : decode cX9_feed 5 = .ok (.sipush 255, 3) := by decide +kernel
theorem dX9_feed_8 : decode cX9_feed 8 = .ok (.if_icmp .le 6, 3) := by decide +kernel
theorem dX9_feed_11 : decode cX9_feed 11 = .ok (.ldc 88, 2) := by decide +kernel
theorem dX9_feed_13 : decode cX9_feed 13 = .ok (.ireturn, 1) := by decide +kernel
theorem dX9_feed_14 : decode cX9_feed 14 = .ok (.aload_n 0, 1) := by decide +kernel
theorem dX9_feed_15 : decode cX9_feed 15 = .ok (.getfield 10, 3) := by decide +kernel
theorem dX9_feed_18 : decode cX9_feed 18 = .ok (.iload_n 1, 1) := by decide +kernel
theorem dX9_feed_19 : decode cX9_feed 19 = .ok (.invokevirtual 89, 3) := by decide +kernel
theorem dX9_feed_22 : decode cX9_feed 22 = .ok (.ifCond .eq 13, 3) := by decide +kernel
theorem dX9_feed_25 : decode cX9_feed 25 = .ok (.aload_n 0, 1) := by decide +kernel
theorem dX9_feed_26 : decode cX9_feed 26 = .ok (.getfield 10, 3) := by decide +kernel
theorem dX9_feed_29 : decode cX9_feed 29 = .ok (.invokevirtual 93, 3) := by decide +kernel
theorem dX9_feed_32 : decode cX9_feed 32 = .ok (.goto 5, 3) := by decide +kernel
theorem dX9_feed_35 : decode cX9_feed 35 = .ok (.ldc 97, 2) := by decide +kernel
theorem dX9_feed_37 : decode cX9_feed 37 = .ok (.ireturn, 1) := by decide +kernel
theorem dX7_empty_0 : decode cX7_empty 0 = .ok (.aload_n 0, 1) := by decide +kernel
theorem dX7_empty_1 : decode cX7_empty 1 = .ok (.iconst 0, 1) := by decide +kernel
theorem dX7_empty_2 : decode cX7_empty 2 = .ok (.putfield 15, 3) := by decide +kernel
theorem dX7_empty_5 : decode cX7_empty 5 = .ok (.return_, 1) := by decide +kernel
theorem dX7_noteFault_0 : decode cX7_noteFault 0 = .ok (.aload_n 0, 1) := by decide +kernel
theorem dX7_noteFault_1 : decode cX7_noteFault 1 = .ok (.iload_n 1, 1) := by decide +kernel
theorem dX7_noteFault_2 : decode cX7_noteFault 2 = .ok (.putfield 19, 3) := by decide +kernel
theorem dX7_noteFault_5 : decode cX7_noteFault 5 = .ok (.return_, 1) := by decide +kernel
theorem dX4_refuse_0 : decode cX4_refuse 0 = .ok (.aload_n 0, 1) := by decide +kernel
theorem dX4_refuse_1 : decode cX4_refuse 1 = .ok (.iload_n 1, 1) := by decide +kernel
theorem dX4_refuse_2 : decode cX4_refuse 2 = .ok (.putfield 19, 3) := by decide +kernel
theorem dX4_refuse_5 : decode cX4_refuse 5 = .ok (.iconst 0, 1) := by decide +kernel
theorem dX4_refuse_6 : decode cX4_refuse 6 = .ok (.ireturn, 1) := by decide +kernel
theorem dX4_step_0 : decode cX4_step 0 = .ok (.aload_n 0, 1) := by decide +kernel
theorem dX4_step_1 : decode cX4_step 1 = .ok (.aload_n 0, 1) := by decide +kernel
theorem dX4_step_2 : decode cX4_step 2 = .ok (.getfield 26, 3) := by decide +kernel
theorem dX4_step_5 : decode cX4_step 5 = .ok (.putfield 23, 3) := by decide +kernel
theorem dX4_step_8 : decode cX4_step 8 = .ok (.aload_n 0, 1) := by decide +kernel
theorem dX4_step_9 : decode cX4_step 9 = .ok (.getfield 26, 3) := by decide +kernel
theorem dX4_step_12 : decode cX4_step 12 = .ok (.aload_n 0, 1) := by decide +kernel
theorem dX4_step_13 : decode cX4_step 13 = .ok (.getfield 9, 3) := by decide +kernel
theorem dX4_step_16 : decode cX4_step 16 = .ok (.invokevirtual 87, 3) := by decide +kernel
theorem dX4_step_19 : decode cX4_step 19 = .ok (.if_icmp .lt 9, 3) := by decide +kernel
theorem dX4_step_22 : decode cX4_step 22 = .ok (.aload_n 0, 1) := by decide +kernel
theorem dX4_step_23 : decode cX4_step 23 = .ok (.iconst (-1), 1) := by decide +kernel
theorem dX4_step_24 : decode cX4_step 24 = .ok (.putfield 48, 3) := by decide +kernel
theorem dX4_step_27 : decode cX4_step 27 = .ok (.return_, 1) := by decide +kernel
theorem dX4_step_28 : decode cX4_step 28 = .ok (.aload_n 0, 1) := by decide +kernel
theorem dX4_step_29 : decode cX4_step 29 = .ok (.getfield 9, 3) := by decide +kernel
theorem dX4_step_32 : decode cX4_step 32 = .ok (.aload_n 0, 1) := by decide +kernel
theorem dX4_step_33 : decode cX4_step 33 = .ok (.getfield 26, 3) := by decide +kernel
theorem dX4_step_36 : decode cX4_step 36 = .ok (.invokevirtual 92, 3) := by decide +kernel
theorem dX4_step_39 : decode cX4_step 39 = .ok (.istore_n 1, 1) := by decide +kernel
theorem dX4_step_40 : decode cX4_step 40 = .ok (.iload_n 1, 1) := by decide +kernel
theorem dX4_step_41 : decode cX4_step 41 = .ok (.invokestatic 95, 3) := by decide +kernel
theorem dX4_step_44 : decode cX4_step 44 = .ok (.ifCond .eq 8, 3) := by decide +kernel
theorem dX4_step_47 : decode cX4_step 47 = .ok (.aload_n 0, 1) := by decide +kernel
theorem dX4_step_48 : decode cX4_step 48 = .ok (.invokevirtual 98, 3) := by decide +kernel
theorem dX4_step_51 : decode cX4_step 51 = .ok (.return_, 1) := by decide +kernel
theorem dX4_step_52 : decode cX4_step 52 = .ok (.aload_n 0, 1) := by decide +kernel
theorem dX4_step_53 : decode cX4_step 53 = .ok (.dup, 1) := by decide +kernel
theorem dX4_step_54 : decode cX4_step 54 = .ok (.getfield 26, 3) := by decide +kernel
theorem dX4_step_57 : decode cX4_step 57 = .ok (.iconst 1, 1) := by decide +kernel
theorem dX4_step_58 : decode cX4_step 58 = .ok (.iadd, 1) := by decide +kernel
theorem dX4_step_59 : decode cX4_step 59 = .ok (.putfield 26, 3) := by decide +kernel
theorem dX4_step_62 : decode cX4_step 62 = .ok (.aload_n 0, 1) := by decide +kernel
theorem dX4_step_63 : decode cX4_step 63 = .ok (.iload_n 1, 1) := by decide +kernel
theorem dX4_step_64 : decode cX4_step 64 = .ok (.bipush 97, 2) := by decide +kernel
theorem dX4_step_66 : decode cX4_step 66 = .ok (.if_icmp .lt 9, 3) := by decide +kernel
theorem dX4_step_69 : decode cX4_step 69 = .ok (.iload_n 1, 1) := by decide +kernel
theorem dX4_step_70 : decode cX4_step 70 = .ok (.bipush 122, 2) := by decide +kernel
theorem dX4_step_72 : decode cX4_step 72 = .ok (.if_icmp .le 15, 3) := by decide +kernel
theorem dX4_step_75 : decode cX4_step 75 = .ok (.iload_n 1, 1) := by decide +kernel
theorem dX4_step_76 : decode cX4_step 76 = .ok (.bipush 44, 2) := by decide +kernel
theorem dX4_step_78 : decode cX4_step 78 = .ok (.if_icmp .eq 9, 3) := by decide +kernel
theorem dX4_step_81 : decode cX4_step 81 = .ok (.iload_n 1, 1) := by decide +kernel
theorem dX4_step_82 : decode cX4_step 82 = .ok (.bipush 59, 2) := by decide +kernel
theorem dX4_step_84 : decode cX4_step 84 = .ok (.if_icmp .ne 7, 3) := by decide +kernel
theorem dX4_step_87 : decode cX4_step 87 = .ok (.iload_n 1, 1) := by decide +kernel
theorem dX4_step_88 : decode cX4_step 88 = .ok (.goto 5, 3) := by decide +kernel
theorem dX4_step_91 : decode cX4_step 91 = .ok (.bipush (-3), 2) := by decide +kernel
theorem dX4_step_93 : decode cX4_step 93 = .ok (.putfield 48, 3) := by decide +kernel
theorem dX4_step_96 : decode cX4_step 96 = .ok (.return_, 1) := by decide +kernel
theorem dX4_expect_0 : decode cX4_expect 0 = .ok (.aload_n 0, 1) := by decide +kernel
theorem dX4_expect_1 : decode cX4_expect 1 = .ok (.invokevirtual 45, 3) := by decide +kernel
theorem dX4_expect_4 : decode cX4_expect 4 = .ok (.aload_n 0, 1) := by decide +kernel
theorem dX4_expect_5 : decode cX4_expect 5 = .ok (.getfield 48, 3) := by decide +kernel
theorem dX4_expect_8 : decode cX4_expect 8 = .ok (.iload_n 1, 1) := by decide +kernel
theorem dX4_expect_9 : decode cX4_expect 9 = .ok (.if_icmp .eq 11, 3) := by decide +kernel
theorem dX4_expect_12 : decode cX4_expect 12 = .ok (.aload_n 0, 1) := by decide +kernel
theorem dX4_expect_13 : decode cX4_expect 13 = .ok (.iconst 1, 1) := by decide +kernel
theorem dX4_expect_14 : decode cX4_expect 14 = .ok (.invokevirtual 36, 3) := by decide +kernel
theorem dX4_expect_17 : decode cX4_expect 17 = .ok (.ifCond .eq 7, 3) := by decide +kernel
theorem dX4_expect_20 : decode cX4_expect 20 = .ok (.iconst 1, 1) := by decide +kernel
theorem dX4_expect_21 : decode cX4_expect 21 = .ok (.goto 4, 3) := by decide +kernel
theorem dX4_expect_24 : decode cX4_expect 24 = .ok (.iconst 0, 1) := by decide +kernel
theorem dX4_expect_25 : decode cX4_expect 25 = .ok (.ireturn, 1) := by decide +kernel
theorem dX4_readHead_0 : decode cX4_readHead 0 = .ok (.aload_n 0, 1) := by decide +kernel
theorem dX4_readHead_1 : decode cX4_readHead 1 = .ok (.iconst 0, 1) := by decide +kernel
theorem dX4_readHead_2 : decode cX4_readHead 2 = .ok (.putfield 26, 3) := by decide +kernel
theorem dX4_readHead_5 : decode cX4_readHead 5 = .ok (.aload_n 0, 1) := by decide +kernel
theorem dX4_readHead_6 : decode cX4_readHead 6 = .ok (.bipush 119, 2) := by decide +kernel
theorem dX4_readHead_8 : decode cX4_readHead 8 = .ok (.invokevirtual 29, 3) := by decide +kernel
theorem dX4_readHead_11 : decode cX4_readHead 11 = .ok (.ifCond .eq 12, 3) := by decide +kernel
theorem dX4_readHead_14 : decode cX4_readHead 14 = .ok (.aload_n 0, 1) := by decide +kernel
theorem dX4_readHead_15 : decode cX4_readHead 15 = .ok (.bipush (-2), 2) := by decide +kernel
theorem dX4_readHead_17 : decode cX4_readHead 17 = .ok (.invokevirtual 29, 3) := by decide +kernel
theorem dX4_readHead_20 : decode cX4_readHead 20 = .ok (.ifCond .ne 5, 3) := by decide +kernel
theorem dX4_readHead_23 : decode cX4_readHead 23 = .ok (.iconst 0, 1) := by decide +kernel
theorem dX4_readHead_24 : decode cX4_readHead 24 = .ok (.ireturn, 1) := by decide +kernel
theorem dX4_readHead_25 : decode cX4_readHead 25 = .ok (.aload_n 0, 1) := by decide +kernel
theorem dX4_readHead_26 : decode cX4_readHead 26 = .ok (.getfield 33, 3) := by decide +kernel
theorem dX4_readHead_29 : decode cX4_readHead 29 = .ok (.iconst 1, 1) := by decide +kernel
theorem dX4_readHead_30 : decode cX4_readHead 30 = .ok (.if_icmp .lt 13, 3) := by decide +kernel
theorem dX4_readHead_33 : decode cX4_readHead 33 = .ok (.aload_n 0, 1) := by decide +kernel
theorem dX4_readHead_34 : decode cX4_readHead 34 = .ok (.getfield 33, 3) := by decide +kernel
theorem dX4_readHead_37 : decode cX4_readHead 37 = .ok (.sipush 200, 3) := by decide +kernel
theorem dX4_readHead_40 : decode cX4_readHead 40 = .ok (.if_icmp .le 9, 3) := by decide +kernel
theorem dX4_readHead_43 : decode cX4_readHead 43 = .ok (.aload_n 0, 1) := by decide +kernel
theorem dX4_readHead_44 : decode cX4_readHead 44 = .ok (.iconst 2, 1) := by decide +kernel
theorem dX4_readHead_45 : decode cX4_readHead 45 = .ok (.invokevirtual 36, 3) := by decide +kernel
theorem dX4_readHead_48 : decode cX4_readHead 48 = .ok (.ireturn, 1) := by decide +kernel
theorem dX4_readHead_49 : decode cX4_readHead 49 = .ok (.aload_n 0, 1) := by decide +kernel
theorem dX4_readHead_50 : decode cX4_readHead 50 = .ok (.getfield 15, 3) := by decide +kernel
theorem dX4_readHead_53 : decode cX4_readHead 53 = .ok (.aload_n 0, 1) := by decide +kernel
theorem dX4_readHead_54 : decode cX4_readHead 54 = .ok (.getfield 33, 3) := by decide +kernel
theorem dX4_readHead_57 : decode cX4_readHead 57 = .ok (.invokevirtual 39, 3) := by decide +kernel
theorem dX4_readHead_60 : decode cX4_readHead 60 = .ok (.aload_n 0, 1) := by decide +kernel
theorem dX4_readHead_61 : decode cX4_readHead 61 = .ok (.bipush 59, 2) := by decide +kernel
theorem dX4_readHead_63 : decode cX4_readHead 63 = .ok (.invokevirtual 29, 3) := by decide +kernel
theorem dX4_readHead_66 : decode cX4_readHead 66 = .ok (.ireturn, 1) := by decide +kernel
theorem dX4_faultNumber_0 : decode cX4_faultNumber 0 = .ok (.aload_n 0, 1) := by decide +kernel
theorem dX4_faultNumber_1 : decode cX4_faultNumber 1 = .ok (.getfield 19, 3) := by decide +kernel
theorem dX4_faultNumber_4 : decode cX4_faultNumber 4 = .ok (.ireturn, 1) := by decide +kernel
theorem dX4_faultPlace_0 : decode cX4_faultPlace 0 = .ok (.aload_n 0, 1) := by decide +kernel
theorem dX4_faultPlace_1 : decode cX4_faultPlace 1 = .ok (.getfield 23, 3) := by decide +kernel
theorem dX4_faultPlace_4 : decode cX4_faultPlace 4 = .ok (.ireturn, 1) := by decide +kernel
theorem dX9_work_0 : decode cX9_work 0 = .ok (.aload_n 0, 1) := by decide +kernel
theorem dX9_work_1 : decode cX9_work 1 = .ok (.getfield 31, 3) := by decide +kernel
theorem dX9_work_4 : decode cX9_work 4 = .ok (.invokevirtual 98, 3) := by decide +kernel
theorem dX9_work_7 : decode cX9_work 7 = .ok (.ifCond .eq 17, 3) := by decide +kernel
theorem dX9_work_10 : decode cX9_work 10 = .ok (.aload_n 0, 1) := by decide +kernel
theorem dX9_work_11 : decode cX9_work 11 = .ok (.getfield 31, 3) := by decide +kernel
theorem dX9_work_14 : decode cX9_work 14 = .ok (.invokevirtual 102, 3) := by decide +kernel
theorem dX9_work_17 : decode cX9_work 17 = .ok (.ifCond .eq 7, 3) := by decide +kernel
theorem dX9_work_20 : decode cX9_work 20 = .ok (.iconst 1, 1) := by decide +kernel
theorem dX9_work_21 : decode cX9_work 21 = .ok (.goto 4, 3) := by decide +kernel
theorem dX9_work_24 : decode cX9_work 24 = .ok (.iconst 0, 1) := by decide +kernel
theorem dX9_work_25 : decode cX9_work 25 = .ok (.istore_n 1, 1) := by decide +kernel
theorem dX9_work_26 : decode cX9_work 26 = .ok (.aload_n 0, 1) := by decide +kernel
theorem dX9_work_27 : decode cX9_work 27 = .ok (.getfield 10, 3) := by decide +kernel
theorem dX9_work_30 : decode cX9_work 30 = .ok (.invokevirtual 105, 3) := by decide +kernel
theorem dX9_work_33 : decode cX9_work 33 = .ok (.iload_n 1, 1) := by decide +kernel
theorem dX9_work_34 : decode cX9_work 34 = .ok (.ifCond .ne 28, 3) := by decide +kernel
theorem dX9_work_37 : decode cX9_work 37 = .ok (.aload_n 0, 1) := by decide +kernel
theorem dX9_work_38 : decode cX9_work 38 = .ok (.getfield 10, 3) := by decide +kernel
theorem dX9_work_41 : decode cX9_work 41 = .ok (.aload_n 0, 1) := by decide +kernel
theorem dX9_work_42 : decode cX9_work 42 = .ok (.getfield 31, 3) := by decide +kernel
theorem dX9_work_45 : decode cX9_work 45 = .ok (.invokevirtual 108, 3) := by decide +kernel
theorem dX9_work_48 : decode cX9_work 48 = .ok (.invokevirtual 111, 3) := by decide +kernel
theorem dX9_work_51 : decode cX9_work 51 = .ok (.ldc 115, 2) := by decide +kernel
theorem dX9_work_53 : decode cX9_work 53 = .ok (.aload_n 0, 1) := by decide +kernel
theorem dX9_work_54 : decode cX9_work 54 = .ok (.getfield 31, 3) := by decide +kernel
theorem dX9_work_57 : decode cX9_work 57 = .ok (.invokevirtual 116, 3) := by decide +kernel
theorem dX9_work_60 : decode cX9_work 60 = .ok (.isub, 1) := by decide +kernel
theorem dX9_work_61 : decode cX9_work 61 = .ok (.ireturn, 1) := by decide +kernel
theorem dX9_work_62 : decode cX9_work 62 = .ok (.aload_n 0, 1) := by decide +kernel
theorem dX9_work_63 : decode cX9_work 63 = .ok (.getfield 19, 3) := by decide +kernel
theorem dX9_work_66 : decode cX9_work 66 = .ok (.aload_n 0, 1) := by decide +kernel
theorem dX9_work_67 : decode cX9_work 67 = .ok (.getfield 23, 3) := by decide +kernel
theorem dX9_work_70 : decode cX9_work 70 = .ok (.invokevirtual 119, 3) := by decide +kernel
theorem dX9_work_73 : decode cX9_work 73 = .ok (.aload_n 0, 1) := by decide +kernel
theorem dX9_work_74 : decode cX9_work 74 = .ok (.getfield 38, 3) := by decide +kernel
theorem dX9_work_77 : decode cX9_work 77 = .ok (.invokevirtual 123, 3) := by decide +kernel
theorem dX9_work_80 : decode cX9_work 80 = .ok (.aload_n 0, 1) := by decide +kernel
theorem dX9_work_81 : decode cX9_work 81 = .ok (.getfield 19, 3) := by decide +kernel
theorem dX9_work_84 : decode cX9_work 84 = .ok (.invokevirtual 126, 3) := by decide +kernel
theorem dX9_work_87 : decode cX9_work 87 = .ok (.ireturn, 1) := by decide +kernel
def w_X7_put : List Cond := .code yX7_put cX7_put 2 (some .boolean) :: ([.fieldLink RX7 15 "LineCites$Tape" "size" "I", .fieldLink RX7 9 "LineCites$Tape" "bytes" "[B"] ++ wsX70)
set_option maxHeartbeats 4000000 in
set_option maxRecDepth 100000 in
theorem c_X7_put (l : Launch) (D : va_G) (h0 : Nat) (i_b : Int32) (a_b : Nat) (k_b : ClassId) (sz : Nat) : Met l yX7_put w_X7_put ({ frames := 0, cells := 0, slots := 0, locals := 0 }) (va_Pc [.ref h0, .int i_b] (fun U => U.heap.size = sz ∧ va_P D vwCl [(h0, .inr (7, [.ref a_b, .int 0, .int 0])), (a_b, .inl (k_b, 200, .inl (fun _ => 0)))] U.heap ∧ va_K D vwCl [(k_b, .byte)] U ∧ va_D (fun _ => True) [(h0, .inr (7, [.ref a_b, .int 0, .int 0])), (a_b, .inl (k_b, 200, .inl (fun _ => 0)))])) (va_Qi (fun (r : Int32) (_ : Unit) => r = 1) (fun (_ : Unit) t => va_P D vwCl [(h0, .inr (7, [.ref a_b, .int 1, .int 0]))] t.heap ∧ va_K D vwCl [] t ∧ va_D (va_A [(h0, .inr (7, [.ref a_b, .int 0, .int 0])), (a_b, .inl (k_b, 200, .inl (fun _ => 0)))] sz) [(h0, .inr (7, [.ref a_b, .int 1, .int 0]))]) (va_A [(h0, .inr (7, [.ref a_b, .int 0, .int 0])), (a_b, .inl (k_b, 200, .inl (fun _ => 0)))] sz)) 0 0 (va_A [(h0, .inr (7, [.ref a_b, .int 0, .int 0])), (a_b, .inl (k_b, 200, .inl (fun _ => 0)))] sz) := by
  refine Met.ofW (cc := cX7_put) (maxL := 2) (ret := (some .boolean)) (by decide) rfl ?_
  intro p e s m args below meth c s₁ B hml hv
  obtain ⟨rfl, hsz, hP, hK, hD0⟩ := hv
  have hx := B.exec
  have hb := B.bytes
  have hr := B.returns
  have hts := atoms_spec (ws := w_X7_put) B.pre
  have hown : s.vm.findClass RX7 = some m.cls := findClass_of_methodNamed B.named
  have hlocks := B.notSynchronized
  subst hsz
  have hD := hD0.self (sz := s.heap.size)
  generalize hAe : va_A [(h0, .inr (7, [.ref a_b, .int 0, .int 0])), (a_b, .inl (k_b, 200, .inl (fun _ => 0)))] s.heap.size = A at hD ⊢
  have hA : ∀ q : Nat, s.heap.size ≤ q → A q := fun q h => by rw [← hAe]; exact Or.inr h
  have hS : va_S A s.heap s.heap [] := va_S.rf
  have hP : va_P D vwCl [(h0, .inr (7, [.ref a_b, .int 0, .int 0])), (a_b, .inl (k_b, 200, .inl (fun _ => 0)))] s.heap := hP
  have hl := lv_entry ([.ref h0, .int i_b]) (n := 2) (Nat.le_of_ble_eq_true rfl)
  rw [lg_entry_eq]
  generalize (lg_sl ([.ref h0, .int i_b]) ++ List.replicate (2 - (lg_sl ([.ref h0, .int i_b])).length) Slot.unset).toArray = ls at hl ⊢
  have hl : lv_has ls 2 [(0, .ref h0), (1, .int i_b)] := hl
  obtain ⟨H, hHe⟩ : ∃ H : Heap, H = s.heap := ⟨_, rfl⟩
  rw [← hHe] at hP
  have hS : va_S A s.heap H [] := by rw [hHe]; exact hS
  refine pw_heap hHe ?_
  refine lv_aload_n hx hb dX7_put_0 rfl (lv_at hl 0 rfl) ?_
  refine va_get (D := D) (ci := 7) (v := .int 0) (C := RX7) (T := TX7) (N := 3) hx hb hts (fun _ h => List.mem_cons_of_mem _ (List.mem_append_right _ h)) hown hK hP 0 rfl rfl 1 (by decide) (hts (.fieldLink RX7 15 "LineCites$Tape" "size" "I") (List.mem_of_getElem? (i := 1) rfl)) (fun _ h9 => h9) rfl dX7_put_1 ?_
  refine lv_if_lt (tgt := 19) hx hb dX7_put_4 (by decide) (fun c1 => absurd c1 (by decide)) (fun c1 => ?_)
  refine lv_aload_n hx hb dX7_put_7 rfl (lv_at hl 0 rfl) ?_
  refine va_get (D := D) (ci := 7) (v := .int 0) (C := RX7) (T := TX7) (N := 3) hx hb hts (fun _ h => List.mem_cons_of_mem _ (List.mem_append_right _ h)) hown hK hP 0 rfl rfl 1 (by decide) (hts (.fieldLink RX7 15 "LineCites$Tape" "size" "I") (List.mem_of_getElem? (i := 1) rfl)) (fun _ h9 => h9) rfl dX7_put_8 ?_
  refine lv_aload_n hx hb dX7_put_11 rfl (lv_at hl 0 rfl) ?_
  refine va_get (D := D) (ci := 7) (v := .ref a_b) (C := RX7) (T := TX7) (N := 3) hx hb hts (fun _ h => List.mem_cons_of_mem _ (List.mem_append_right _ h)) hown hK hP 0 rfl rfl 0 (by decide) (hts (.fieldLink RX7 9 "LineCites$Tape" "bytes" "[B") (List.mem_of_getElem? (i := 2) rfl)) (fun _ h9 => h9) rfl dX7_put_12 ?_
  refine va_alen (v := 200) hx hb hK hP 1 0 rfl rfl (by decide) dX7_put_15 ?_
  refine lv_icmp_lt (tgt := 21) hx hb dX7_put_16 (by decide) (fun c2 => ?_) (fun c2 => absurd (by decide) c2)
  refine lv_aload_n hx hb dX7_put_21 rfl (lv_at hl 0 rfl) ?_
  refine va_get (D := D) (ci := 7) (v := .ref a_b) (C := RX7) (T := TX7) (N := 3) hx hb hts (fun _ h => List.mem_cons_of_mem _ (List.mem_append_right _ h)) hown hK hP 0 rfl rfl 0 (by decide) (hts (.fieldLink RX7 9 "LineCites$Tape" "bytes" "[B") (List.mem_of_getElem? (i := 2) rfl)) (fun _ h9 => h9) rfl dX7_put_22 ?_
  refine lv_aload_n hx hb dX7_put_25 rfl (lv_at hl 0 rfl) ?_
  refine va_get (D := D) (ci := 7) (v := .int 0) (C := RX7) (T := TX7) (N := 3) hx hb hts (fun _ h => List.mem_cons_of_mem _ (List.mem_append_right _ h)) hown hK hP 0 rfl rfl 1 (by decide) (hts (.fieldLink RX7 15 "LineCites$Tape" "size" "I") (List.mem_of_getElem? (i := 1) rfl)) (fun _ h9 => h9) rfl dX7_put_26 ?_
  refine lv_iload_n hx hb dX7_put_29 rfl (lv_at hl 1 rfl) ?_
  refine lv_i2b hx hb dX7_put_30 rfl ?_
  refine lv_topi (fun x3 ex3 => ?_)
  refine va_bast hx hb hK hP hD hS 1 0 rfl rfl (vp_in_iff.mpr (by decide)) dX7_put_31 (fun H locs hP hD hS => ?_)
  obtain ⟨g4, eg4⟩ : ∃ g : Nat → Int32, g = upd (fun _ => 0) (0 : Int32).toNatClampNeg (vp_nar .byte x3) := ⟨_, rfl⟩
  have hP : va_P D vwCl [(h0, .inr (7, [.ref a_b, .int 0, .int 0])), (a_b, .inl (k_b, 200, .inl (upd (fun _ => 0) (0 : Int32).toNatClampNeg (vp_nar .byte x3))))] H := hP
  have hD : va_D A [(h0, .inr (7, [.ref a_b, .int 0, .int 0])), (a_b, .inl (k_b, 200, .inl (upd (fun _ => 0) (0 : Int32).toNatClampNeg (vp_nar .byte x3))))] := hD
  have hK : va_K D vwCl [(k_b, .byte)] s := hK
  rw [← eg4] at hP hD
  refine lv_aload_n hx hb dX7_put_32 rfl (lv_at hl 0 rfl) ?_
  refine lv_dup hx hb dX7_put_33 rfl ?_
  refine va_get (D := D) (ci := 7) (v := .int 0) (C := RX7) (T := TX7) (N := 3) hx hb hts (fun _ h => List.mem_cons_of_mem _ (List.mem_append_right _ h)) hown hK hP 0 rfl rfl 1 (by decide) (hts (.fieldLink RX7 15 "LineCites$Tape" "size" "I") (List.mem_of_getElem? (i := 1) rfl)) (fun _ h9 => h9) rfl dX7_put_34 ?_
  refine lv_iconst (v := 1) hx hb dX7_put_37 (by decide) ?_
  refine lv_iadd hx hb dX7_put_38 ?_
  refine lv_topi (fun x5 ex5 => ?_)
  obtain rfl : x5 = 1 := ex5.trans (by decide)
  refine va_put (D := D) (ci := 7) (v := .int 1) (ty := .int) (C := RX7) (T := TX7) (N := 3) hx hb hts (fun _ h => List.mem_cons_of_mem _ (List.mem_append_right _ h)) tyX7 tyX7_ok nmX7 hown hK hP hD hS 0 rfl rfl 1 (by decide) (hts (.fieldLink RX7 15 "LineCites$Tape" "size" "I") (List.mem_of_getElem? (i := 1) rfl)) (fun _ h9 => h9) rfl (by decide +kernel) rfl rfl (Nat.le_of_ble_eq_true rfl) dX7_put_39 (fun H locs hP hD hS => ?_)
  have hP : va_P D vwCl [(h0, .inr (7, [.ref a_b, .int 1, .int 0])), (a_b, .inl (k_b, 200, .inl g4))] H := hP
  have hD : va_D A [(h0, .inr (7, [.ref a_b, .int 1, .int 0])), (a_b, .inl (k_b, 200, .inl g4))] := hD
  have hK : va_K D vwCl [(k_b, .byte)] s := hK
  refine lv_iconst (v := 1) hx hb dX7_put_42 (by decide) ?_
  have hP9 := hP.sub (ws' := [(h0, .inr (7, [.ref a_b, .int 1, .int 0]))]) [0] rfl
  have hD9 := hD.sub (ws' := [(h0, .inr (7, [.ref a_b, .int 1, .int 0]))]) [0] (by decide) rfl
  have hK9 := hK.sub (tys' := []) [] rfl
  refine W.widen (k := 0) (n := 0) (Nat.le_of_ble_eq_true rfl) (Nat.le_of_ble_eq_true rfl) ?_
  exact W.zret (v := 1) (ty := .boolean) hx hb hr rfl (fun t ht hW => ⟨⟨1, (), rfl, rfl, by rw [ht]; exact hP9, va_K.moved hW.alike hK9, hD9⟩, hS.F ht⟩) hS.2.2 dX7_put_43
def w_X9_feed : List Cond := .code yX9_feed cX9_feed 2 (some .int) :: ([.constant RX9 88 (-1000001), .fieldLink RX9 10 "LineCites" "tape" "LLineCites$Tape;", .methodLink RX9 89 yX7_put, .instanceMethod yX7_put, .selects RX7 yX7_put yX7_put, .initialized RX7, .code yX7_put cX7_put 2 (some .boolean), .fieldLink RX7 15 "LineCites$Tape" "size" "I", .fieldLink RX7 9 "LineCites$Tape" "bytes" "[B", .methodLink RX9 93 yX7_size, .instanceMethod yX7_size, .selects RX7 yX7_size yX7_size, .code yX7_size cX7_size 1 (some .int)] ++ wsX90 ++ wsX70)
set_option maxRecDepth 20000 in
theorem g_X9_feed_X7_put : GoodIn w_X9_feed (wsV RX9 89 RX7 yX7_put w_X7_put) := goodIn_r _ [3, 4, 5, 6, 7, 8, 9, 28, 29, 30] rfl (by decide +kernel)
set_option maxRecDepth 20000 in
theorem g_X9_feed_X7_size__1 : GoodIn w_X9_feed (wsV RX9 93 RX7 yX7_size w_X7_size__1) := goodIn_r _ [10, 11, 12, 6, 13, 8, 28, 29, 30] rfl (by decide +kernel)
set_option maxHeartbeats 4000000 in
set_option maxRecDepth 100000 in
theorem c_X9_feed (l : Launch) (D : va_G) (h0 : Nat) (i_0 : Int32) (a_tape : Nat) (a_now : Nat) (a_draft : Nat) (a_reader : Nat) (a_acts : Nat) (a_images : Nat) (a_one : Nat) (a_other : Nat) (a_third : Nat) (a_spans : Nat) (a_back : Nat) (a_span : Nat) (a_middle : Nat) (a_reached : Nat) (a_b : Nat) (k_b : ClassId) (sz : Nat) : Met l yX9_feed w_X9_feed ({ frames := 1, cells := 0, slots := 0, locals := 21 }) (va_Pc [.ref h0, .int i_0] (fun U => U.heap.size = sz ∧ va_P D vwCl [(h0, .inr (9, [.ref a_tape, .ref a_now, .ref a_draft, .ref a_reader, .ref a_acts, .ref a_images, .ref a_one, .ref a_other, .ref a_third, .ref a_spans, .ref a_back, .ref a_span, .ref a_middle, .ref a_reached])), (a_tape, .inr (7, [.ref a_b, .int 0, .int 0])), (a_b, .inl (k_b, 200, .inl (fun _ => 0)))] U.heap ∧ va_K D vwCl [(k_b, .byte)] U ∧ va_D (fun _ => True) [(h0, .inr (9, [.ref a_tape, .ref a_now, .ref a_draft, .ref a_reader, .ref a_acts, .ref a_images, .ref a_one, .ref a_other, .ref a_third, .ref a_spans, .ref a_back, .ref a_span, .ref a_middle, .ref a_reached])), (a_tape, .inr (7, [.ref a_b, .int 0, .int 0])), (a_b, .inl (k_b, 200, .inl (fun _ => 0)))])) (va_Qi (fun (r : Int32) (_ : Unit) => r = sp_rng i_0 255 1 (-1000001)) (fun (_ : Unit) t => va_P D vwCl [] t.heap ∧ va_K D vwCl [] t ∧ va_D (va_A [(h0, .inr (9, [.ref a_tape, .ref a_now, .ref a_draft, .ref a_reader, .ref a_acts, .ref a_images, .ref a_one, .ref a_other, .ref a_third, .ref a_spans, .ref a_back, .ref a_span, .ref a_middle, .ref a_reached])), (a_tape, .inr (7, [.ref a_b, .int 0, .int 0])), (a_b, .inl (k_b, 200, .inl (fun _ => 0)))] sz) []) (va_A [(h0, .inr (9, [.ref a_tape, .ref a_now, .ref a_draft, .ref a_reader, .ref a_acts, .ref a_images, .ref a_one, .ref a_other, .ref a_third, .ref a_spans, .ref a_back, .ref a_span, .ref a_middle, .ref a_reached])), (a_tape, .inr (7, [.ref a_b, .int 0, .int 0])), (a_b, .inl (k_b, 200, .inl (fun _ => 0)))] sz)) 0 0 (va_A [(h0, .inr (9, [.ref a_tape, .ref a_now, .ref a_draft, .ref a_reader, .ref a_acts, .ref a_images, .ref a_one, .ref a_other, .ref a_third, .ref a_spans, .ref a_back, .ref a_span, .ref a_middle, .ref a_reached])), (a_tape, .inr (7, [.ref a_b, .int 0, .int 0])), (a_b, .inl (k_b, 200, .inl (fun _ => 0)))] sz) := by
  refine Met.ofW (cc := cX9_feed) (maxL := 2) (ret := (some .int)) (by decide) rfl ?_
  intro p e s m args below meth c s₁ B hml hv
  obtain ⟨rfl, hsz, hP, hK, hD0⟩ := hv
  have hx := B.exec
  have hb := B.bytes
  have hr := B.returns
  have hts := atoms_spec (ws := w_X9_feed) B.pre
  have hown : s.vm.findClass RX9 = some m.cls := findClass_of_methodNamed B.named
  have hlocks := B.notSynchronized
  subst hsz
  have hD := hD0.self (sz := s.heap.size)
  generalize hAe : va_A [(h0, .inr (9, [.ref a_tape, .ref a_now, .ref a_draft, .ref a_reader, .ref a_acts, .ref a_images, .ref a_one, .ref a_other, .ref a_third, .ref a_spans, .ref a_back, .ref a_span, .ref a_middle, .ref a_reached])), (a_tape, .inr (7, [.ref a_b, .int 0, .int 0])), (a_b, .inl (k_b, 200, .inl (fun _ => 0)))] s.heap.size = A at hD ⊢
  have hA : ∀ q : Nat, s.heap.size ≤ q → A q := fun q h => by rw [← hAe]; exact Or.inr h
  have hS : va_S A s.heap s.heap [] := va_S.rf
  have hP : va_P D vwCl [(h0, .inr (9, [.ref a_tape, .ref a_now, .ref a_draft, .ref a_reader, .ref a_acts, .ref a_images, .ref a_one, .ref a_other, .ref a_third, .ref a_spans, .ref a_back, .ref a_span, .ref a_middle, .ref a_reached])), (a_tape, .inr (7, [.ref a_b, .int 0, .int 0])), (a_b, .inl (k_b, 200, .inl (fun _ => 0)))] s.heap := hP
  have hl := lv_entry ([.ref h0, .int i_0]) (n := 2) (Nat.le_of_ble_eq_true rfl)
  rw [lg_entry_eq]
  generalize (lg_sl ([.ref h0, .int i_0]) ++ List.replicate (2 - (lg_sl ([.ref h0, .int i_0])).length) Slot.unset).toArray = ls at hl ⊢
  have hl : lv_has ls 2 [(0, .ref h0), (1, .int i_0)] := hl
  obtain ⟨H, hHe⟩ : ∃ H : Heap, H = s.heap := ⟨_, rfl⟩
  rw [← hHe] at hP
  have hS : va_S A s.heap H [] := by rw [hHe]; exact hS
  refine pw_heap hHe ?_
  refine lv_iload_n hx hb dX9_feed_0 rfl (lv_at hl 1 rfl) ?_
  refine lv_if_lt (tgt := 11) hx hb dX9_feed_1 (by decide) (fun c1 => ?_) (fun c1 => ?_)
  · have nc1 : i_0.toInt < 0 := pw_lt c1 rfl (by decide)
    refine lv_ldc hx hb hown (hts (.constant RX9 88 (-1000001)) (List.mem_of_getElem? (i := 1) rfl)) dX9_feed_11 ?_
    have hP9 := hP.sub (ws' := []) [] rfl
    have hD9 := hD.sub (ws' := []) [] (by decide) rfl
    have hK9 := hK.sub (tys' := []) [] rfl
    refine W.widen (k := 0) (n := 0) (Nat.le_of_ble_eq_true rfl) (Nat.le_of_ble_eq_true rfl) ?_
    exact W.iret (v := (-1000001)) hx hb hr (fun t ht hW => ⟨⟨(-1000001), (), rfl, sp_out (by omega), by rw [ht]; exact hP9, va_K.moved hW.alike hK9, hD9⟩, hS.F ht⟩) hS.2.2 dX9_feed_13
  · have nc1 : 0 ≤ i_0.toInt := pw_nlt c1 rfl (by decide)
    refine lv_iload_n hx hb dX9_feed_4 rfl (lv_at hl 1 rfl) ?_
    refine lv_sipush (v := 255) hx hb dX9_feed_5 (by decide) ?_
    refine lv_icmp_le (tgt := 14) hx hb dX9_feed_8 (by decide) (fun c2 => ?_) (fun c2 => ?_)
    · have nc2 : i_0.toInt ≤ 255 := pw_le c2 rfl (by decide)
      refine lv_aload_n hx hb dX9_feed_14 rfl (lv_at hl 0 rfl) ?_
      refine va_get (D := D) (ci := 9) (v := .ref a_tape) (C := RX9) (T := TX9) (N := 14) hx hb hts (fun _ h => List.mem_cons_of_mem _ (List.mem_append_left _ (List.mem_append_right _ h))) hown hK hP 0 rfl rfl 0 (by decide) (hts (.fieldLink RX9 10 "LineCites" "tape" "LLineCites$Tape;") (List.mem_of_getElem? (i := 2) rfl)) (fun _ h9 => h9) rfl dX9_feed_15 ?_
      refine lv_iload_n hx hb dX9_feed_18 rfl (lv_at hl 1 rfl) ?_
      have hPc := hP.sub (ws' := [(a_tape, .inr (7, [.ref a_b, .int 0, .int 0])), (a_b, .inl (k_b, 200, .inl (fun _ => 0)))]) [1, 2] rfl
      have hKc := hK.sub (tys' := [(k_b, .byte)]) [0] rfl
      have hDc := hD.sub (ws' := [(a_tape, .inr (7, [.ref a_b, .int 0, .int 0])), (a_b, .inl (k_b, 200, .inl (fun _ => 0)))]) [1, 2] (by decide) rfl
      have hFc := va_free (wc := [(a_tape, .inr (7, [.ref a_b, .int 0, .int 0])), (a_b, .inl (k_b, 200, .inl (fun _ => 0)))]) hD hS hA [1, 2] rfl
      refine va_calli (va_runV (As := [.int i_0]) (rest := []) ⟨hx, hb, hml, hown, hts⟩ (c_X7_put l D a_tape i_0 a_b k_b H.size) (cwV 1 hts g_X9_feed_X7_put rfl rfl rfl (by decide +kernel) ⟨Nat.le_of_ble_eq_true rfl, Nat.le_of_ble_eq_true rfl⟩) ⟨fun a U g mk q => by obtain ⟨q0, q1, qP, qK, qD⟩ := q; exact ⟨q0, q1, qP, va_K.moved (u := U) (U := U.calling g mk a) (Vm.Alike.refl U.vm) qK, qD⟩, va_recv hKc hPc (ci := 7) (q0 := 0) rfl rfl, fun U hU hW => ⟨rfl, by rw [hU], by rw [hU]; exact hPc, va_K.moved hW.alike hKc, hDc.weaken (fun _ _ _ _ => trivial)⟩⟩ rfl rfl hl.1 rfl (lv_room (Nat.le_of_ble_eq_true rfl)) dX9_feed_19 ⟨Nat.le_of_ble_eq_true rfl, Nat.le_of_ble_eq_true rfl⟩) hS (fun q _ h => hFc q h) hFc (fun r3 u t H1 locs ht hvm hw hB hz1 hk1 hS => ?_)
      obtain ⟨hP1, hK1, hD1⟩ := hB
      rw [ht] at hP1
      have hK1 := va_K.moved hvm.symm hK1
      obtain ⟨hP, hD⟩ := va_join (wr := [(h0, .inr (9, [.ref a_tape, .ref a_now, .ref a_draft, .ref a_reader, .ref a_acts, .ref a_images, .ref a_one, .ref a_other, .ref a_third, .ref a_spans, .ref a_back, .ref a_span, .ref a_middle, .ref a_reached]))]) (w1 := [(a_tape, .inr (7, [.ref a_b, .int 1, .int 0]))]) hP hD [1, 2] [0] rfl rfl (by decide) (by decide) hk1 hFc hP1 hD1
      have hK := (hK.sub (tys' := [(k_b, .byte)]) [0] rfl).app hK1
      generalize H1 = H at hP hS ⊢
      have hP : va_P D vwCl [(h0, .inr (9, [.ref a_tape, .ref a_now, .ref a_draft, .ref a_reader, .ref a_acts, .ref a_images, .ref a_one, .ref a_other, .ref a_third, .ref a_spans, .ref a_back, .ref a_span, .ref a_middle, .ref a_reached])), (a_tape, .inr (7, [.ref a_b, .int 1, .int 0]))] H := hP
      have hD : va_D A [(h0, .inr (9, [.ref a_tape, .ref a_now, .ref a_draft, .ref a_reader, .ref a_acts, .ref a_images, .ref a_one, .ref a_other, .ref a_third, .ref a_spans, .ref a_back, .ref a_span, .ref a_middle, .ref a_reached])), (a_tape, .inr (7, [.ref a_b, .int 1, .int 0]))] := hD
      have hK : va_K D vwCl [(k_b, .byte)] s := hK
      refine W.widen (k := 0) (n := 0) (Nat.le_of_ble_eq_true rfl) (Nat.le_of_ble_eq_true rfl) ?_
      obtain rfl : r3 = 1 := hw
      refine lv_if_eq (tgt := 35) hx hb dX9_feed_22 (by decide) (fun c4 => absurd c4 (by decide)) (fun c4 => ?_)
      refine lv_aload_n hx hb dX9_feed_25 rfl (lv_at hl 0 rfl) ?_
      refine va_get (D := D) (ci := 9) (v := .ref a_tape) (C := RX9) (T := TX9) (N := 14) hx hb hts (fun _ h => List.mem_cons_of_mem _ (List.mem_append_left _ (List.mem_append_right _ h))) hown hK hP 0 rfl rfl 0 (by decide) (hts (.fieldLink RX9 10 "LineCites" "tape" "LLineCites$Tape;") (List.mem_of_getElem? (i := 2) rfl)) (fun _ h9 => h9) rfl dX9_feed_26 ?_
      have hPc := hP.sub (ws' := [(a_tape, .inr (7, [.ref a_b, .int 1, .int 0]))]) [1] rfl
      have hKc := hK.sub (tys' := []) [] rfl
      refine va_calli (va_runV (As := []) (rest := []) ⟨hx, hb, hml, hown, hts⟩ (c_X7_size__1 l D a_tape a_b) (cwV 0 hts g_X9_feed_X7_size__1 rfl rfl rfl (by decide +kernel) ⟨Nat.le_of_ble_eq_true rfl, Nat.le_of_ble_eq_true rfl⟩) ⟨fun a U g mk q => by obtain ⟨q0, qP, qK⟩ := q; exact ⟨q0, qP, va_K.moved (u := U) (U := U.calling g mk a) (Vm.Alike.refl U.vm) qK⟩, va_recv hKc hPc (ci := 7) (q0 := 0) rfl rfl, fun U hU hW => ⟨rfl, by rw [hU]; exact hPc, va_K.moved hW.alike hKc⟩⟩ rfl rfl hl.1 rfl (lv_room (Nat.le_of_ble_eq_true rfl)) dX9_feed_29 ⟨Nat.le_of_ble_eq_true rfl, Nat.le_of_ble_eq_true rfl⟩) hS (fun _ _ h => h.elim) (fun _ h => h.elim) (fun r5 u t H1 locs ht hvm hw hB hz1 hk1 hS => ?_)
      have hP := pw_keep hP (fun q hq => hk1 q hq (fun h => h))
      generalize H1 = H at hP hS ⊢
      refine W.widen (k := 0) (n := 0) (Nat.le_of_ble_eq_true rfl) (Nat.le_of_ble_eq_true rfl) ?_
      obtain rfl : r5 = 1 := hw
      refine lv_goto (tgt := 37) hx hb dX9_feed_32 (by decide) ?_
      have hP9 := hP.sub (ws' := []) [] rfl
      have hD9 := hD.sub (ws' := []) [] (by decide) rfl
      have hK9 := hK.sub (tys' := []) [] rfl
      refine W.widen (k := 0) (n := 0) (Nat.le_of_ble_eq_true rfl) (Nat.le_of_ble_eq_true rfl) ?_
      exact W.iret (v := 1) hx hb hr (fun t ht hW => ⟨⟨1, (), rfl, sp_in (by omega) (by omega), by rw [ht]; exact hP9, va_K.moved hW.alike hK9, hD9⟩, hS.F ht⟩) hS.2.2 dX9_feed_37
    · have nc2 : 255 < i_0.toInt := pw_nle c2 rfl (by decide)
      refine lv_ldc hx hb hown (hts (.constant RX9 88 (-1000001)) (List.mem_of_getElem? (i := 1) rfl)) dX9_feed_11 ?_
      have hP9 := hP.sub (ws' := []) [] rfl
      have hD9 := hD.sub (ws' := []) [] (by decide) rfl
      have hK9 := hK.sub (tys' := []) [] rfl
      refine W.widen (k := 0) (n := 0) (Nat.le_of_ble_eq_true rfl) (Nat.le_of_ble_eq_true rfl) ?_
      exact W.iret (v := (-1000001)) hx hb hr (fun t ht hW => ⟨⟨(-1000001), (), rfl, sp_out (by omega), by rw [ht]; exact hP9, va_K.moved hW.alike hK9, hD9⟩, hS.F ht⟩) hS.2.2 dX9_feed_13
def w_X7_empty : List Cond := .code yX7_empty cX7_empty 1 none :: ([.fieldLink RX7 15 "LineCites$Tape" "size" "I"] ++ wsX70)
set_option maxHeartbeats 4000000 in
set_option maxRecDepth 100000 in
theorem c_X7_empty (l : Launch) (D : va_G) (h0 : Nat) (a_b : Nat) (sz : Nat) : Met l yX7_empty w_X7_empty ({ frames := 0, cells := 0, slots := 0, locals := 0 }) (va_Pc [.ref h0] (fun U => U.heap.size = sz ∧ va_P D vwCl [(h0, .inr (7, [.ref a_b, .int 0, .int 0]))] U.heap ∧ va_K D vwCl [] U ∧ va_D (fun _ => True) [(h0, .inr (7, [.ref a_b, .int 0, .int 0]))])) (va_Qv (fun (_ : Unit) => True) (fun (_ : Unit) t => va_P D vwCl [(h0, .inr (7, [.ref a_b, .int 0, .int 0]))] t.heap ∧ va_K D vwCl [] t ∧ va_D (va_A [(h0, .inr (7, [.ref a_b, .int 0, .int 0]))] sz) [(h0, .inr (7, [.ref a_b, .int 0, .int 0]))]) (va_A [(h0, .inr (7, [.ref a_b, .int 0, .int 0]))] sz)) 0 0 (va_A [(h0, .inr (7, [.ref a_b, .int 0, .int 0]))] sz) := by
  refine Met.ofW (cc := cX7_empty) (maxL := 1) (ret := none) (by decide) rfl ?_
  intro p e s m args below meth c s₁ B hml hv
  obtain ⟨rfl, hsz, hP, hK, hD0⟩ := hv
  have hx := B.exec
  have hb := B.bytes
  have hr := B.returns
  have hts := atoms_spec (ws := w_X7_empty) B.pre
  have hown : s.vm.findClass RX7 = some m.cls := findClass_of_methodNamed B.named
  have hlocks := B.notSynchronized
  subst hsz
  have hD := hD0.self (sz := s.heap.size)
  generalize hAe : va_A [(h0, .inr (7, [.ref a_b, .int 0, .int 0]))] s.heap.size = A at hD ⊢
  have hA : ∀ q : Nat, s.heap.size ≤ q → A q := fun q h => by rw [← hAe]; exact Or.inr h
  have hS : va_S A s.heap s.heap [] := va_S.rf
  have hP : va_P D vwCl [(h0, .inr (7, [.ref a_b, .int 0, .int 0]))] s.heap := hP
  have hl := lv_entry ([.ref h0]) (n := 1) (Nat.le_of_ble_eq_true rfl)
  rw [lg_entry_eq]
  generalize (lg_sl ([.ref h0]) ++ List.replicate (1 - (lg_sl ([.ref h0])).length) Slot.unset).toArray = ls at hl ⊢
  have hl : lv_has ls 1 [(0, .ref h0)] := hl
  obtain ⟨H, hHe⟩ : ∃ H : Heap, H = s.heap := ⟨_, rfl⟩
  rw [← hHe] at hP
  have hS : va_S A s.heap H [] := by rw [hHe]; exact hS
  refine pw_heap hHe ?_
  refine lv_aload_n hx hb dX7_empty_0 rfl (lv_at hl 0 rfl) ?_
  refine lv_iconst (v := 0) hx hb dX7_empty_1 (by decide) ?_
  refine va_put (D := D) (ci := 7) (v := .int 0) (ty := .int) (C := RX7) (T := TX7) (N := 3) hx hb hts (fun _ h => List.mem_cons_of_mem _ (List.mem_append_right _ h)) tyX7 tyX7_ok nmX7 hown hK hP hD hS 0 rfl rfl 1 (by decide) (hts (.fieldLink RX7 15 "LineCites$Tape" "size" "I") (List.mem_of_getElem? (i := 1) rfl)) (fun _ h9 => h9) rfl (by decide +kernel) rfl rfl (Nat.le_of_ble_eq_true rfl) dX7_empty_2 (fun H locs hP hD hS => ?_)
  have hP : va_P D vwCl [(h0, .inr (7, [.ref a_b, .int 0, .int 0]))] H := hP
  have hD : va_D A [(h0, .inr (7, [.ref a_b, .int 0, .int 0]))] := hD
  have hK : va_K D vwCl [] s := hK
  have hP9 := hP.sub (ws' := [(h0, .inr (7, [.ref a_b, .int 0, .int 0]))]) [0] rfl
  have hD9 := hD.sub (ws' := [(h0, .inr (7, [.ref a_b, .int 0, .int 0]))]) [0] (by decide) rfl
  have hK9 := hK.sub (tys' := []) [] rfl
  refine W.widen (k := 0) (n := 0) (Nat.le_of_ble_eq_true rfl) (Nat.le_of_ble_eq_true rfl) ?_
  exact W.vret hx hb hr (fun t ht hW => ⟨⟨(), rfl, trivial, by rw [ht]; exact hP9, va_K.moved hW.alike hK9, hD9⟩, hS.F ht⟩) hS.2.2 dX7_empty_5
def w_X7_noteFault : List Cond := .code yX7_noteFault cX7_noteFault 2 none :: ([.fieldLink RX7 19 "LineCites$Tape" "latestFault" "I"] ++ wsX70)
set_option maxHeartbeats 4000000 in
set_option maxRecDepth 100000 in
theorem c_X7_noteFault (l : Launch) (D : va_G) (h0 : Nat) (a_b : Nat) (sz : Nat) : Met l yX7_noteFault w_X7_noteFault ({ frames := 0, cells := 0, slots := 0, locals := 0 }) (va_Pc [.ref h0, .int 1] (fun U => U.heap.size = sz ∧ va_P D vwCl [(h0, .inr (7, [.ref a_b, .int 0, .int 0]))] U.heap ∧ va_K D vwCl [] U ∧ va_D (fun _ => True) [(h0, .inr (7, [.ref a_b, .int 0, .int 0]))])) (va_Qv (fun (_ : Unit) => True) (fun (_ : Unit) t => va_P D vwCl [(h0, .inr (7, [.ref a_b, .int 0, .int 1]))] t.heap ∧ va_K D vwCl [] t ∧ va_D (va_A [(h0, .inr (7, [.ref a_b, .int 0, .int 0]))] sz) [(h0, .inr (7, [.ref a_b, .int 0, .int 1]))]) (va_A [(h0, .inr (7, [.ref a_b, .int 0, .int 0]))] sz)) 0 0 (va_A [(h0, .inr (7, [.ref a_b, .int 0, .int 0]))] sz) := by
  refine Met.ofW (cc := cX7_noteFault) (maxL := 2) (ret := none) (by decide) rfl ?_
  intro p e s m args below meth c s₁ B hml hv
  obtain ⟨rfl, hsz, hP, hK, hD0⟩ := hv
  have hx := B.exec
  have hb := B.bytes
  have hr := B.returns
  have hts := atoms_spec (ws := w_X7_noteFault) B.pre
  have hown : s.vm.findClass RX7 = some m.cls := findClass_of_methodNamed B.named
  have hlocks := B.notSynchronized
  subst hsz
  have hD := hD0.self (sz := s.heap.size)
  generalize hAe : va_A [(h0, .inr (7, [.ref a_b, .int 0, .int 0]))] s.heap.size = A at hD ⊢
  have hA : ∀ q : Nat, s.heap.size ≤ q → A q := fun q h => by rw [← hAe]; exact Or.inr h
  have hS : va_S A s.heap s.heap [] := va_S.rf
  have hP : va_P D vwCl [(h0, .inr (7, [.ref a_b, .int 0, .int 0]))] s.heap := hP
  have hl := lv_entry ([.ref h0, .int 1]) (n := 2) (Nat.le_of_ble_eq_true rfl)
  rw [lg_entry_eq]
  generalize (lg_sl ([.ref h0, .int 1]) ++ List.replicate (2 - (lg_sl ([.ref h0, .int 1])).length) Slot.unset).toArray = ls at hl ⊢
  have hl : lv_has ls 2 [(0, .ref h0), (1, .int 1)] := hl
  obtain ⟨H, hHe⟩ : ∃ H : Heap, H = s.heap := ⟨_, rfl⟩
  rw [← hHe] at hP
  have hS : va_S A s.heap H [] := by rw [hHe]; exact hS
  refine pw_heap hHe ?_
  refine lv_aload_n hx hb dX7_noteFault_0 rfl (lv_at hl 0 rfl) ?_
  refine lv_iload_n hx hb dX7_noteFault_1 rfl (lv_at hl 1 rfl) ?_
  refine va_put (D := D) (ci := 7) (v := .int 1) (ty := .int) (C := RX7) (T := TX7) (N := 3) hx hb hts (fun _ h => List.mem_cons_of_mem _ (List.mem_append_right _ h)) tyX7 tyX7_ok nmX7 hown hK hP hD hS 0 rfl rfl 2 (by decide) (hts (.fieldLink RX7 19 "LineCites$Tape" "latestFault" "I") (List.mem_of_getElem? (i := 1) rfl)) (fun _ h9 => h9) rfl (by decide +kernel) rfl rfl (Nat.le_of_ble_eq_true rfl) dX7_noteFault_2 (fun H locs hP hD hS => ?_)
  have hP : va_P D vwCl [(h0, .inr (7, [.ref a_b, .int 0, .int 1]))] H := hP
  have hD : va_D A [(h0, .inr (7, [.ref a_b, .int 0, .int 1]))] := hD
  have hK : va_K D vwCl [] s := hK
  have hP9 := hP.sub (ws' := [(h0, .inr (7, [.ref a_b, .int 0, .int 1]))]) [0] rfl
  have hD9 := hD.sub (ws' := [(h0, .inr (7, [.ref a_b, .int 0, .int 1]))]) [0] (by decide) rfl
  have hK9 := hK.sub (tys' := []) [] rfl
  refine W.widen (k := 0) (n := 0) (Nat.le_of_ble_eq_true rfl) (Nat.le_of_ble_eq_true rfl) ?_
  exact W.vret hx hb hr (fun t ht hW => ⟨⟨(), rfl, trivial, by rw [ht]; exact hP9, va_K.moved hW.alike hK9, hD9⟩, hS.F ht⟩) hS.2.2 dX7_noteFault_5
def w_X4_refuse : List Cond := .code yX4_refuse cX4_refuse 2 (some .boolean) :: ([.fieldLink RX4 19 "LineCites$Reader" "faultNumber" "I"] ++ wsX40)
set_option maxHeartbeats 4000000 in
set_option maxRecDepth 100000 in
theorem c_X4_refuse (l : Launch) (D : va_G) (h0 : Nat) (a_t : Nat) (a_d : Nat) (sz : Nat) : Met l yX4_refuse w_X4_refuse ({ frames := 0, cells := 0, slots := 0, locals := 0 }) (va_Pc [.ref h0, .int 1] (fun U => U.heap.size = sz ∧ va_P D vwCl [(h0, .inr (4, [.ref a_t, .ref a_d, .int 0, .int (-1), .int 0, .int 0, .int 0]))] U.heap ∧ va_K D vwCl [] U ∧ va_D (fun _ => True) [(h0, .inr (4, [.ref a_t, .ref a_d, .int 0, .int (-1), .int 0, .int 0, .int 0]))])) (va_Qi (fun (r : Int32) (_ : Unit) => r = 0) (fun (_ : Unit) t => va_P D vwCl [(h0, .inr (4, [.ref a_t, .ref a_d, .int 0, .int (-1), .int 0, .int 0, .int 1]))] t.heap ∧ va_K D vwCl [] t ∧ va_D (va_A [(h0, .inr (4, [.ref a_t, .ref a_d, .int 0, .int (-1), .int 0, .int 0, .int 0]))] sz) [(h0, .inr (4, [.ref a_t, .ref a_d, .int 0, .int (-1), .int 0, .int 0, .int 1]))]) (va_A [(h0, .inr (4, [.ref a_t, .ref a_d, .int 0, .int (-1), .int 0, .int 0, .int 0]))] sz)) 0 0 (va_A [(h0, .inr (4, [.ref a_t, .ref a_d, .int 0, .int (-1), .int 0, .int 0, .int 0]))] sz) := by
  refine Met.ofW (cc := cX4_refuse) (maxL := 2) (ret := (some .boolean)) (by decide) rfl ?_
  intro p e s m args below meth c s₁ B hml hv
  obtain ⟨rfl, hsz, hP, hK, hD0⟩ := hv
  have hx := B.exec
  have hb := B.bytes
  have hr := B.returns
  have hts := atoms_spec (ws := w_X4_refuse) B.pre
  have hown : s.vm.findClass RX4 = some m.cls := findClass_of_methodNamed B.named
  have hlocks := B.notSynchronized
  subst hsz
  have hD := hD0.self (sz := s.heap.size)
  generalize hAe : va_A [(h0, .inr (4, [.ref a_t, .ref a_d, .int 0, .int (-1), .int 0, .int 0, .int 0]))] s.heap.size = A at hD ⊢
  have hA : ∀ q : Nat, s.heap.size ≤ q → A q := fun q h => by rw [← hAe]; exact Or.inr h
  have hS : va_S A s.heap s.heap [] := va_S.rf
  have hP : va_P D vwCl [(h0, .inr (4, [.ref a_t, .ref a_d, .int 0, .int (-1), .int 0, .int 0, .int 0]))] s.heap := hP
  have hl := lv_entry ([.ref h0, .int 1]) (n := 2) (Nat.le_of_ble_eq_true rfl)
  rw [lg_entry_eq]
  generalize (lg_sl ([.ref h0, .int 1]) ++ List.replicate (2 - (lg_sl ([.ref h0, .int 1])).length) Slot.unset).toArray = ls at hl ⊢
  have hl : lv_has ls 2 [(0, .ref h0), (1, .int 1)] := hl
  obtain ⟨H, hHe⟩ : ∃ H : Heap, H = s.heap := ⟨_, rfl⟩
  rw [← hHe] at hP
  have hS : va_S A s.heap H [] := by rw [hHe]; exact hS
  refine pw_heap hHe ?_
  refine lv_aload_n hx hb dX4_refuse_0 rfl (lv_at hl 0 rfl) ?_
  refine lv_iload_n hx hb dX4_refuse_1 rfl (lv_at hl 1 rfl) ?_
  refine va_put (D := D) (ci := 4) (v := .int 1) (ty := .int) (C := RX4) (T := TX4) (N := 7) hx hb hts (fun _ h => List.mem_cons_of_mem _ (List.mem_append_right _ h)) tyX4 tyX4_ok nmX4 hown hK hP hD hS 0 rfl rfl 6 (by decide) (hts (.fieldLink RX4 19 "LineCites$Reader" "faultNumber" "I") (List.mem_of_getElem? (i := 1) rfl)) (fun _ h9 => h9) rfl (by decide +kernel) rfl rfl (Nat.le_of_ble_eq_true rfl) dX4_refuse_2 (fun H locs hP hD hS => ?_)
  have hP : va_P D vwCl [(h0, .inr (4, [.ref a_t, .ref a_d, .int 0, .int (-1), .int 0, .int 0, .int 1]))] H := hP
  have hD : va_D A [(h0, .inr (4, [.ref a_t, .ref a_d, .int 0, .int (-1), .int 0, .int 0, .int 1]))] := hD
  have hK : va_K D vwCl [] s := hK
  refine lv_iconst (v := 0) hx hb dX4_refuse_5 (by decide) ?_
  have hP9 := hP.sub (ws' := [(h0, .inr (4, [.ref a_t, .ref a_d, .int 0, .int (-1), .int 0, .int 0, .int 1]))]) [0] rfl
  have hD9 := hD.sub (ws' := [(h0, .inr (4, [.ref a_t, .ref a_d, .int 0, .int (-1), .int 0, .int 0, .int 1]))]) [0] (by decide) rfl
  have hK9 := hK.sub (tys' := []) [] rfl
  refine W.widen (k := 0) (n := 0) (Nat.le_of_ble_eq_true rfl) (Nat.le_of_ble_eq_true rfl) ?_
  exact W.zret (v := 0) (ty := .boolean) hx hb hr rfl (fun t ht hW => ⟨⟨0, (), rfl, rfl, by rw [ht]; exact hP9, va_K.moved hW.alike hK9, hD9⟩, hS.F ht⟩) hS.2.2 dX4_refuse_6
def w_X4_step : List Cond := .code yX4_step cX4_step 2 none :: ([.fieldLink RX4 26 "LineCites$Reader" "at" "I", .fieldLink RX4 23 "LineCites$Reader" "place" "I", .fieldLink RX4 9 "LineCites$Reader" "tape" "LLineCites$Tape;", .methodLink RX4 87 yX7_size, .instanceMethod yX7_size, .selects RX7 yX7_size yX7_size, .initialized RX7, .code yX7_size cX7_size 1 (some .int), .fieldLink RX7 15 "LineCites$Tape" "size" "I", .fieldLink RX4 48 "LineCites$Reader" "token" "I"] ++ wsX40 ++ wsX70)
set_option maxRecDepth 20000 in
theorem g_X4_step_X7_size : GoodIn w_X4_step (wsV RX4 87 RX7 yX7_size w_X7_size) := goodIn_r _ [4, 5, 6, 7, 8, 9, 18, 19, 20] rfl (by decide +kernel)
set_option maxHeartbeats 4000000 in
set_option maxRecDepth 100000 in
theorem c_X4_step (l : Launch) (D : va_G) (h0 : Nat) (a_t : Nat) (a_d : Nat) (a_b : Nat) (sz : Nat) : Met l yX4_step w_X4_step ({ frames := 1, cells := 0, slots := 0, locals := 20 }) (va_Pc [.ref h0] (fun U => U.heap.size = sz ∧ va_P D vwCl [(h0, .inr (4, [.ref a_t, .ref a_d, .int 0, .int 0, .int 0, .int 0, .int 0])), (a_t, .inr (7, [.ref a_b, .int 0, .int 0]))] U.heap ∧ va_K D vwCl [] U ∧ va_D (fun _ => True) [(h0, .inr (4, [.ref a_t, .ref a_d, .int 0, .int 0, .int 0, .int 0, .int 0])), (a_t, .inr (7, [.ref a_b, .int 0, .int 0]))])) (va_Qv (fun (_ : Unit) => True) (fun (_ : Unit) t => va_P D vwCl [(h0, .inr (4, [.ref a_t, .ref a_d, .int 0, .int (-1), .int 0, .int 0, .int 0])), (a_t, .inr (7, [.ref a_b, .int 0, .int 0]))] t.heap ∧ va_K D vwCl [] t ∧ va_D (va_A [(h0, .inr (4, [.ref a_t, .ref a_d, .int 0, .int 0, .int 0, .int 0, .int 0])), (a_t, .inr (7, [.ref a_b, .int 0, .int 0]))] sz) [(h0, .inr (4, [.ref a_t, .ref a_d, .int 0, .int (-1), .int 0, .int 0, .int 0])), (a_t, .inr (7, [.ref a_b, .int 0, .int 0]))]) (va_A [(h0, .inr (4, [.ref a_t, .ref a_d, .int 0, .int 0, .int 0, .int 0, .int 0])), (a_t, .inr (7, [.ref a_b, .int 0, .int 0]))] sz)) 0 0 (va_A [(h0, .inr (4, [.ref a_t, .ref a_d, .int 0, .int 0, .int 0, .int 0, .int 0])), (a_t, .inr (7, [.ref a_b, .int 0, .int 0]))] sz) := by
  refine Met.ofW (cc := cX4_step) (maxL := 2) (ret := none) (by decide) rfl ?_
  intro p e s m args below meth c s₁ B hml hv
  obtain ⟨rfl, hsz, hP, hK, hD0⟩ := hv
  have hx := B.exec
  have hb := B.bytes
  have hr := B.returns
  have hts := atoms_spec (ws := w_X4_step) B.pre
  have hown : s.vm.findClass RX4 = some m.cls := findClass_of_methodNamed B.named
  have hlocks := B.notSynchronized
  subst hsz
  have hD := hD0.self (sz := s.heap.size)
  generalize hAe : va_A [(h0, .inr (4, [.ref a_t, .ref a_d, .int 0, .int 0, .int 0, .int 0, .int 0])), (a_t, .inr (7, [.ref a_b, .int 0, .int 0]))] s.heap.size = A at hD ⊢
  have hA : ∀ q : Nat, s.heap.size ≤ q → A q := fun q h => by rw [← hAe]; exact Or.inr h
  have hS : va_S A s.heap s.heap [] := va_S.rf
  have hP : va_P D vwCl [(h0, .inr (4, [.ref a_t, .ref a_d, .int 0, .int 0, .int 0, .int 0, .int 0])), (a_t, .inr (7, [.ref a_b, .int 0, .int 0]))] s.heap := hP
  have hl := lv_entry ([.ref h0]) (n := 2) (Nat.le_of_ble_eq_true rfl)
  rw [lg_entry_eq]
  generalize (lg_sl ([.ref h0]) ++ List.replicate (2 - (lg_sl ([.ref h0])).length) Slot.unset).toArray = ls at hl ⊢
  have hl : lv_has ls 2 [(0, .ref h0)] := hl
  obtain ⟨H, hHe⟩ : ∃ H : Heap, H = s.heap := ⟨_, rfl⟩
  rw [← hHe] at hP
  have hS : va_S A s.heap H [] := by rw [hHe]; exact hS
  refine pw_heap hHe ?_
  refine lv_aload_n hx hb dX4_step_0 rfl (lv_at hl 0 rfl) ?_
  refine lv_aload_n hx hb dX4_step_1 rfl (lv_at hl 0 rfl) ?_
  refine va_get (D := D) (ci := 4) (v := .int 0) (C := RX4) (T := TX4) (N := 7) hx hb hts (fun _ h => List.mem_cons_of_mem _ (List.mem_append_left _ (List.mem_append_right _ h))) hown hK hP 0 rfl rfl 2 (by decide) (hts (.fieldLink RX4 26 "LineCites$Reader" "at" "I") (List.mem_of_getElem? (i := 1) rfl)) (fun _ h9 => h9) rfl dX4_step_2 ?_
  refine va_put (D := D) (ci := 4) (v := .int 0) (ty := .int) (C := RX4) (T := TX4) (N := 7) hx hb hts (fun _ h => List.mem_cons_of_mem _ (List.mem_append_left _ (List.mem_append_right _ h))) tyX4 tyX4_ok nmX4 hown hK hP hD hS 0 rfl rfl 4 (by decide) (hts (.fieldLink RX4 23 "LineCites$Reader" "place" "I") (List.mem_of_getElem? (i := 2) rfl)) (fun _ h9 => h9) rfl (by decide +kernel) rfl rfl (Nat.le_of_ble_eq_true rfl) dX4_step_5 (fun H locs hP hD hS => ?_)
  have hP : va_P D vwCl [(h0, .inr (4, [.ref a_t, .ref a_d, .int 0, .int 0, .int 0, .int 0, .int 0])), (a_t, .inr (7, [.ref a_b, .int 0, .int 0]))] H := hP
  have hD : va_D A [(h0, .inr (4, [.ref a_t, .ref a_d, .int 0, .int 0, .int 0, .int 0, .int 0])), (a_t, .inr (7, [.ref a_b, .int 0, .int 0]))] := hD
  have hK : va_K D vwCl [] s := hK
  refine lv_aload_n hx hb dX4_step_8 rfl (lv_at hl 0 rfl) ?_
  refine va_get (D := D) (ci := 4) (v := .int 0) (C := RX4) (T := TX4) (N := 7) hx hb hts (fun _ h => List.mem_cons_of_mem _ (List.mem_append_left _ (List.mem_append_right _ h))) hown hK hP 0 rfl rfl 2 (by decide) (hts (.fieldLink RX4 26 "LineCites$Reader" "at" "I") (List.mem_of_getElem? (i := 1) rfl)) (fun _ h9 => h9) rfl dX4_step_9 ?_
  refine lv_aload_n hx hb dX4_step_12 rfl (lv_at hl 0 rfl) ?_
  refine va_get (D := D) (ci := 4) (v := .ref a_t) (C := RX4) (T := TX4) (N := 7) hx hb hts (fun _ h => List.mem_cons_of_mem _ (List.mem_append_left _ (List.mem_append_right _ h))) hown hK hP 0 rfl rfl 0 (by decide) (hts (.fieldLink RX4 9 "LineCites$Reader" "tape" "LLineCites$Tape;") (List.mem_of_getElem? (i := 3) rfl)) (fun _ h9 => h9) rfl dX4_step_13 ?_
  have hPc := hP.sub (ws' := [(a_t, .inr (7, [.ref a_b, .int 0, .int 0]))]) [1] rfl
  have hKc := hK.sub (tys' := []) [] rfl
  refine va_calli (va_runV (As := []) (rest := [.int 0]) ⟨hx, hb, hml, hown, hts⟩ (c_X7_size l D a_t a_b) (cwV 0 hts g_X4_step_X7_size rfl rfl rfl (by decide +kernel) ⟨Nat.le_of_ble_eq_true rfl, Nat.le_of_ble_eq_true rfl⟩) ⟨fun a U g mk q => by obtain ⟨q0, qP, qK⟩ := q; exact ⟨q0, qP, va_K.moved (u := U) (U := U.calling g mk a) (Vm.Alike.refl U.vm) qK⟩, va_recv hKc hPc (ci := 7) (q0 := 0) rfl rfl, fun U hU hW => ⟨rfl, by rw [hU]; exact hPc, va_K.moved hW.alike hKc⟩⟩ rfl rfl hl.1 rfl (lv_room (Nat.le_of_ble_eq_true rfl)) dX4_step_16 ⟨Nat.le_of_ble_eq_true rfl, Nat.le_of_ble_eq_true rfl⟩) hS (fun _ _ h => h.elim) (fun _ h => h.elim) (fun r1 u t H1 locs ht hvm hw hB hz1 hk1 hS => ?_)
  have hP := pw_keep hP (fun q hq => hk1 q hq (fun h => h))
  generalize H1 = H at hP hS ⊢
  refine W.widen (k := 0) (n := 0) (Nat.le_of_ble_eq_true rfl) (Nat.le_of_ble_eq_true rfl) ?_
  obtain rfl : r1 = 0 := hw
  refine lv_icmp_lt (tgt := 28) hx hb dX4_step_19 (by decide) (fun c2 => absurd c2 (by decide)) (fun c2 => ?_)
  refine lv_aload_n hx hb dX4_step_22 rfl (lv_at hl 0 rfl) ?_
  refine lv_iconst (v := (-1)) hx hb dX4_step_23 (by decide) ?_
  refine va_put (D := D) (ci := 4) (v := .int (-1)) (ty := .int) (C := RX4) (T := TX4) (N := 7) hx hb hts (fun _ h => List.mem_cons_of_mem _ (List.mem_append_left _ (List.mem_append_right _ h))) tyX4 tyX4_ok nmX4 hown hK hP hD hS 0 rfl rfl 3 (by decide) (hts (.fieldLink RX4 48 "LineCites$Reader" "token" "I") (List.mem_of_getElem? (i := 10) rfl)) (fun _ h9 => h9) rfl (by decide +kernel) rfl rfl (Nat.le_of_ble_eq_true rfl) dX4_step_24 (fun H locs hP hD hS => ?_)
  have hP : va_P D vwCl [(h0, .inr (4, [.ref a_t, .ref a_d, .int 0, .int (-1), .int 0, .int 0, .int 0])), (a_t, .inr (7, [.ref a_b, .int 0, .int 0]))] H := hP
  have hD : va_D A [(h0, .inr (4, [.ref a_t, .ref a_d, .int 0, .int (-1), .int 0, .int 0, .int 0])), (a_t, .inr (7, [.ref a_b, .int 0, .int 0]))] := hD
  have hK : va_K D vwCl [] s := hK
  have hP9 := hP.sub (ws' := [(h0, .inr (4, [.ref a_t, .ref a_d, .int 0, .int (-1), .int 0, .int 0, .int 0])), (a_t, .inr (7, [.ref a_b, .int 0, .int 0]))]) [0, 1] rfl
  have hD9 := hD.sub (ws' := [(h0, .inr (4, [.ref a_t, .ref a_d, .int 0, .int (-1), .int 0, .int 0, .int 0])), (a_t, .inr (7, [.ref a_b, .int 0, .int 0]))]) [0, 1] (by decide) rfl
  have hK9 := hK.sub (tys' := []) [] rfl
  refine W.widen (k := 0) (n := 0) (Nat.le_of_ble_eq_true rfl) (Nat.le_of_ble_eq_true rfl) ?_
  exact W.vret hx hb hr (fun t ht hW => ⟨⟨(), rfl, trivial, by rw [ht]; exact hP9, va_K.moved hW.alike hK9, hD9⟩, hS.F ht⟩) hS.2.2 dX4_step_27
def w_X4_expect : List Cond := .code yX4_expect cX4_expect 2 (some .boolean) :: ([.methodLink RX4 45 yX4_step, .instanceMethod yX4_step, .selects RX4 yX4_step yX4_step, .initialized RX4, .code yX4_step cX4_step 2 none, .fieldLink RX4 26 "LineCites$Reader" "at" "I", .fieldLink RX4 23 "LineCites$Reader" "place" "I", .fieldLink RX4 9 "LineCites$Reader" "tape" "LLineCites$Tape;", .methodLink RX4 87 yX7_size, .instanceMethod yX7_size, .selects RX7 yX7_size yX7_size, .initialized RX7, .code yX7_size cX7_size 1 (some .int), .fieldLink RX7 15 "LineCites$Tape" "size" "I", .fieldLink RX4 48 "LineCites$Reader" "token" "I", .methodLink RX4 36 yX4_refuse, .instanceMethod yX4_refuse, .selects RX4 yX4_refuse yX4_refuse, .code yX4_refuse cX4_refuse 2 (some .boolean), .fieldLink RX4 19 "LineCites$Reader" "faultNumber" "I"] ++ wsX40 ++ wsX70)
set_option maxRecDepth 20000 in
theorem g_X4_expect_X4_step : GoodIn w_X4_expect (wsV RX4 45 RX4 yX4_step w_X4_step) := goodIn_r _ [1, 2, 3, 4, 5, 6, 7, 8, 9, 10, 11, 12, 13, 14, 15, 21, 22, 23, 24, 25, 26, 27, 28, 29, 30] rfl (by decide +kernel)
set_option maxRecDepth 20000 in
theorem g_X4_expect_X4_refuse : GoodIn w_X4_expect (wsV RX4 36 RX4 yX4_refuse w_X4_refuse) := goodIn_r _ [16, 17, 18, 4, 19, 20, 21, 22, 23, 24, 25, 26, 27] rfl (by decide +kernel)
set_option maxHeartbeats 4000000 in
set_option maxRecDepth 100000 in
theorem c_X4_expect (l : Launch) (D : va_G) (h0 : Nat) (a_t : Nat) (a_d : Nat) (a_b : Nat) (sz : Nat) : Met l yX4_expect w_X4_expect ({ frames := 2, cells := 0, slots := 0, locals := 41 }) (va_Pc [.ref h0, .int 119] (fun U => U.heap.size = sz ∧ va_P D vwCl [(h0, .inr (4, [.ref a_t, .ref a_d, .int 0, .int 0, .int 0, .int 0, .int 0])), (a_t, .inr (7, [.ref a_b, .int 0, .int 0]))] U.heap ∧ va_K D vwCl [] U ∧ va_D (fun _ => True) [(h0, .inr (4, [.ref a_t, .ref a_d, .int 0, .int 0, .int 0, .int 0, .int 0])), (a_t, .inr (7, [.ref a_b, .int 0, .int 0]))])) (va_Qi (fun (r : Int32) (_ : Unit) => r = 0) (fun (_ : Unit) t => va_P D vwCl [(h0, .inr (4, [.ref a_t, .ref a_d, .int 0, .int (-1), .int 0, .int 0, .int 1])), (a_t, .inr (7, [.ref a_b, .int 0, .int 0]))] t.heap ∧ va_K D vwCl [] t ∧ va_D (va_A [(h0, .inr (4, [.ref a_t, .ref a_d, .int 0, .int 0, .int 0, .int 0, .int 0])), (a_t, .inr (7, [.ref a_b, .int 0, .int 0]))] sz) [(h0, .inr (4, [.ref a_t, .ref a_d, .int 0, .int (-1), .int 0, .int 0, .int 1])), (a_t, .inr (7, [.ref a_b, .int 0, .int 0]))]) (va_A [(h0, .inr (4, [.ref a_t, .ref a_d, .int 0, .int 0, .int 0, .int 0, .int 0])), (a_t, .inr (7, [.ref a_b, .int 0, .int 0]))] sz)) 0 0 (va_A [(h0, .inr (4, [.ref a_t, .ref a_d, .int 0, .int 0, .int 0, .int 0, .int 0])), (a_t, .inr (7, [.ref a_b, .int 0, .int 0]))] sz) := by
  refine Met.ofW (cc := cX4_expect) (maxL := 2) (ret := (some .boolean)) (by decide) rfl ?_
  intro p e s m args below meth c s₁ B hml hv
  obtain ⟨rfl, hsz, hP, hK, hD0⟩ := hv
  have hx := B.exec
  have hb := B.bytes
  have hr := B.returns
  have hts := atoms_spec (ws := w_X4_expect) B.pre
  have hown : s.vm.findClass RX4 = some m.cls := findClass_of_methodNamed B.named
  have hlocks := B.notSynchronized
  subst hsz
  have hD := hD0.self (sz := s.heap.size)
  generalize hAe : va_A [(h0, .inr (4, [.ref a_t, .ref a_d, .int 0, .int 0, .int 0, .int 0, .int 0])), (a_t, .inr (7, [.ref a_b, .int 0, .int 0]))] s.heap.size = A at hD ⊢
  have hA : ∀ q : Nat, s.heap.size ≤ q → A q := fun q h => by rw [← hAe]; exact Or.inr h
  have hS : va_S A s.heap s.heap [] := va_S.rf
  have hP : va_P D vwCl [(h0, .inr (4, [.ref a_t, .ref a_d, .int 0, .int 0, .int 0, .int 0, .int 0])), (a_t, .inr (7, [.ref a_b, .int 0, .int 0]))] s.heap := hP
  have hl := lv_entry ([.ref h0, .int 119]) (n := 2) (Nat.le_of_ble_eq_true rfl)
  rw [lg_entry_eq]
  generalize (lg_sl ([.ref h0, .int 119]) ++ List.replicate (2 - (lg_sl ([.ref h0, .int 119])).length) Slot.unset).toArray = ls at hl ⊢
  have hl : lv_has ls 2 [(0, .ref h0), (1, .int 119)] := hl
  obtain ⟨H, hHe⟩ : ∃ H : Heap, H = s.heap := ⟨_, rfl⟩
  rw [← hHe] at hP
  have hS : va_S A s.heap H [] := by rw [hHe]; exact hS
  refine pw_heap hHe ?_
  refine lv_aload_n hx hb dX4_expect_0 rfl (lv_at hl 0 rfl) ?_
  have hPc := hP.sub (ws' := [(h0, .inr (4, [.ref a_t, .ref a_d, .int 0, .int 0, .int 0, .int 0, .int 0])), (a_t, .inr (7, [.ref a_b, .int 0, .int 0]))]) [0, 1] rfl
  have hKc := hK.sub (tys' := []) [] rfl
  have hDc := hD.sub (ws' := [(h0, .inr (4, [.ref a_t, .ref a_d, .int 0, .int 0, .int 0, .int 0, .int 0])), (a_t, .inr (7, [.ref a_b, .int 0, .int 0]))]) [0, 1] (by decide) rfl
  have hFc := va_free (wc := [(h0, .inr (4, [.ref a_t, .ref a_d, .int 0, .int 0, .int 0, .int 0, .int 0])), (a_t, .inr (7, [.ref a_b, .int 0, .int 0]))]) hD hS hA [0, 1] rfl
  refine va_callv (va_runV (As := []) (rest := []) ⟨hx, hb, hml, hown, hts⟩ (c_X4_step l D h0 a_t a_d a_b H.size) (cwV 0 hts g_X4_expect_X4_step rfl rfl rfl (by decide +kernel) ⟨Nat.le_of_ble_eq_true rfl, Nat.le_of_ble_eq_true rfl⟩) ⟨fun a U g mk q => by obtain ⟨q0, q1, qP, qK, qD⟩ := q; exact ⟨q0, q1, qP, va_K.moved (u := U) (U := U.calling g mk a) (Vm.Alike.refl U.vm) qK, qD⟩, va_recv hKc hPc (ci := 4) (q0 := 0) rfl rfl, fun U hU hW => ⟨rfl, by rw [hU], by rw [hU]; exact hPc, va_K.moved hW.alike hKc, hDc.weaken (fun _ _ _ _ => trivial)⟩⟩ rfl rfl hl.1 rfl (lv_room (Nat.le_of_ble_eq_true rfl)) dX4_expect_1 ⟨Nat.le_of_ble_eq_true rfl, Nat.le_of_ble_eq_true rfl⟩) hS (fun q _ h => hFc q h) hFc (fun u t H1 locs ht hvm hw hB hz1 hk1 hS => ?_)
  obtain ⟨hP1, hK1, hD1⟩ := hB
  rw [ht] at hP1
  have hK1 := va_K.moved hvm.symm hK1
  obtain ⟨hP, hD⟩ := va_join (wr := []) (w1 := [(h0, .inr (4, [.ref a_t, .ref a_d, .int 0, .int (-1), .int 0, .int 0, .int 0])), (a_t, .inr (7, [.ref a_b, .int 0, .int 0]))]) hP hD [0, 1] [] rfl rfl (by decide) (by decide) hk1 hFc hP1 hD1
  have hK := (hK.sub (tys' := []) [] rfl).app hK1
  generalize H1 = H at hP hS ⊢
  have hP : va_P D vwCl [(h0, .inr (4, [.ref a_t, .ref a_d, .int 0, .int (-1), .int 0, .int 0, .int 0])), (a_t, .inr (7, [.ref a_b, .int 0, .int 0]))] H := hP
  have hD : va_D A [(h0, .inr (4, [.ref a_t, .ref a_d, .int 0, .int (-1), .int 0, .int 0, .int 0])), (a_t, .inr (7, [.ref a_b, .int 0, .int 0]))] := hD
  have hK : va_K D vwCl [] s := hK
  refine W.widen (k := 0) (n := 0) (Nat.le_of_ble_eq_true rfl) (Nat.le_of_ble_eq_true rfl) ?_
  refine lv_aload_n hx hb dX4_expect_4 rfl (lv_at hl 0 rfl) ?_
  refine va_get (D := D) (ci := 4) (v := .int (-1)) (C := RX4) (T := TX4) (N := 7) hx hb hts (fun _ h => List.mem_cons_of_mem _ (List.mem_append_left _ (List.mem_append_right _ h))) hown hK hP 0 rfl rfl 3 (by decide) (hts (.fieldLink RX4 48 "LineCites$Reader" "token" "I") (List.mem_of_getElem? (i := 15) rfl)) (fun _ h9 => h9) rfl dX4_expect_5 ?_
  refine lv_iload_n hx hb dX4_expect_8 rfl (lv_at hl 1 rfl) ?_
  refine lv_icmp_eq (tgt := 20) hx hb dX4_expect_9 (by decide) (fun c2 => absurd c2 (by decide)) (fun c2 => ?_)
  refine lv_aload_n hx hb dX4_expect_12 rfl (lv_at hl 0 rfl) ?_
  refine lv_iconst (v := 1) hx hb dX4_expect_13 (by decide) ?_
  have hPc := hP.sub (ws' := [(h0, .inr (4, [.ref a_t, .ref a_d, .int 0, .int (-1), .int 0, .int 0, .int 0]))]) [0] rfl
  have hKc := hK.sub (tys' := []) [] rfl
  have hDc := hD.sub (ws' := [(h0, .inr (4, [.ref a_t, .ref a_d, .int 0, .int (-1), .int 0, .int 0, .int 0]))]) [0] (by decide) rfl
  have hFc := va_free (wc := [(h0, .inr (4, [.ref a_t, .ref a_d, .int 0, .int (-1), .int 0, .int 0, .int 0]))]) hD hS hA [0] rfl
  refine va_calli (va_runV (As := [.int 1]) (rest := []) ⟨hx, hb, hml, hown, hts⟩ (c_X4_refuse l D h0 a_t a_d H.size) (cwV 1 hts g_X4_expect_X4_refuse rfl rfl rfl (by decide +kernel) ⟨Nat.le_of_ble_eq_true rfl, Nat.le_of_ble_eq_true rfl⟩) ⟨fun a U g mk q => by obtain ⟨q0, q1, qP, qK, qD⟩ := q; exact ⟨q0, q1, qP, va_K.moved (u := U) (U := U.calling g mk a) (Vm.Alike.refl U.vm) qK, qD⟩, va_recv hKc hPc (ci := 4) (q0 := 0) rfl rfl, fun U hU hW => ⟨rfl, by rw [hU], by rw [hU]; exact hPc, va_K.moved hW.alike hKc, hDc.weaken (fun _ _ _ _ => trivial)⟩⟩ rfl rfl hl.1 rfl (lv_room (Nat.le_of_ble_eq_true rfl)) dX4_expect_14 ⟨Nat.le_of_ble_eq_true rfl, Nat.le_of_ble_eq_true rfl⟩) hS (fun q _ h => hFc q h) hFc (fun r3 u t H1 locs ht hvm hw hB hz1 hk1 hS => ?_)
  obtain ⟨hP1, hK1, hD1⟩ := hB
  rw [ht] at hP1
  have hK1 := va_K.moved hvm.symm hK1
  obtain ⟨hP, hD⟩ := va_join (wr := [(a_t, .inr (7, [.ref a_b, .int 0, .int 0]))]) (w1 := [(h0, .inr (4, [.ref a_t, .ref a_d, .int 0, .int (-1), .int 0, .int 0, .int 1]))]) hP hD [0] [1] rfl rfl (by decide) (by decide) hk1 hFc hP1 hD1
  have hK := (hK.sub (tys' := []) [] rfl).app hK1
  generalize H1 = H at hP hS ⊢
  have hP : va_P D vwCl [(a_t, .inr (7, [.ref a_b, .int 0, .int 0])), (h0, .inr (4, [.ref a_t, .ref a_d, .int 0, .int (-1), .int 0, .int 0, .int 1]))] H := hP
  have hD : va_D A [(a_t, .inr (7, [.ref a_b, .int 0, .int 0])), (h0, .inr (4, [.ref a_t, .ref a_d, .int 0, .int (-1), .int 0, .int 0, .int 1]))] := hD
  have hK : va_K D vwCl [] s := hK
  refine W.widen (k := 0) (n := 0) (Nat.le_of_ble_eq_true rfl) (Nat.le_of_ble_eq_true rfl) ?_
  obtain rfl : r3 = 0 := hw
  refine lv_if_eq (tgt := 24) hx hb dX4_expect_17 (by decide) (fun c4 => ?_) (fun c4 => absurd (by decide) c4)
  refine lv_iconst (v := 0) hx hb dX4_expect_24 (by decide) ?_
  have hP9 := hP.sub (ws' := [(h0, .inr (4, [.ref a_t, .ref a_d, .int 0, .int (-1), .int 0, .int 0, .int 1])), (a_t, .inr (7, [.ref a_b, .int 0, .int 0]))]) [1, 0] rfl
  have hD9 := hD.sub (ws' := [(h0, .inr (4, [.ref a_t, .ref a_d, .int 0, .int (-1), .int 0, .int 0, .int 1])), (a_t, .inr (7, [.ref a_b, .int 0, .int 0]))]) [1, 0] (by decide) rfl
  have hK9 := hK.sub (tys' := []) [] rfl
  refine W.widen (k := 0) (n := 0) (Nat.le_of_ble_eq_true rfl) (Nat.le_of_ble_eq_true rfl) ?_
  exact W.zret (v := 0) (ty := .boolean) hx hb hr rfl (fun t ht hW => ⟨⟨0, (), rfl, rfl, by rw [ht]; exact hP9, va_K.moved hW.alike hK9, hD9⟩, hS.F ht⟩) hS.2.2 dX4_expect_25
def w_X4_readHead : List Cond := .code yX4_readHead cX4_readHead 1 (some .boolean) :: ([.fieldLink RX4 26 "LineCites$Reader" "at" "I", .methodLink RX4 29 yX4_expect, .instanceMethod yX4_expect, .selects RX4 yX4_expect yX4_expect, .initialized RX4, .code yX4_expect cX4_expect 2 (some .boolean), .methodLink RX4 45 yX4_step, .instanceMethod yX4_step, .selects RX4 yX4_step yX4_step, .code yX4_step cX4_step 2 none, .fieldLink RX4 23 "LineCites$Reader" "place" "I", .fieldLink RX4 9 "LineCites$Reader" "tape" "LLineCites$Tape;", .methodLink RX4 87 yX7_size, .instanceMethod yX7_size, .selects RX7 yX7_size yX7_size, .initialized RX7, .code yX7_size cX7_size 1 (some .int), .fieldLink RX7 15 "LineCites$Tape" "size" "I", .fieldLink RX4 48 "LineCites$Reader" "token" "I", .methodLink RX4 36 yX4_refuse, .instanceMethod yX4_refuse, .selects RX4 yX4_refuse yX4_refuse, .code yX4_refuse cX4_refuse 2 (some .boolean), .fieldLink RX4 19 "LineCites$Reader" "faultNumber" "I"] ++ wsX40 ++ wsX70)
set_option maxRecDepth 20000 in
theorem g_X4_readHead_X4_expect : GoodIn w_X4_readHead (wsV RX4 29 RX4 yX4_expect w_X4_expect) := goodIn_r _ [2, 3, 4, 5, 6, 7, 8, 9, 5, 10, 1, 11, 12, 13, 14, 15, 16, 17, 18, 19, 20, 21, 22, 23, 24, 25, 26, 27, 28, 29, 30, 31, 32, 33, 34] rfl (by decide +kernel)
set_option maxHeartbeats 4000000 in
set_option maxRecDepth 100000 in
theorem c_X4_readHead (l : Launch) (D : va_G) (h0 : Nat) (a_t : Nat) (a_d : Nat) (a_b : Nat) (sz : Nat) : Met l yX4_readHead w_X4_readHead ({ frames := 3, cells := 0, slots := 0, locals := 62 }) (va_Pc [.ref h0] (fun U => U.heap.size = sz ∧ va_P D vwCl [(h0, .inr (4, [.ref a_t, .ref a_d, .int 0, .int 0, .int 0, .int 0, .int 0])), (a_t, .inr (7, [.ref a_b, .int 0, .int 0]))] U.heap ∧ va_K D vwCl [] U ∧ va_D (fun _ => True) [(h0, .inr (4, [.ref a_t, .ref a_d, .int 0, .int 0, .int 0, .int 0, .int 0])), (a_t, .inr (7, [.ref a_b, .int 0, .int 0]))])) (va_Qi (fun (r : Int32) (_ : Unit) => r = 0) (fun (_ : Unit) t => va_P D vwCl [(h0, .inr (4, [.ref a_t, .ref a_d, .int 0, .int (-1), .int 0, .int 0, .int 1])), (a_t, .inr (7, [.ref a_b, .int 0, .int 0]))] t.heap ∧ va_K D vwCl [] t ∧ va_D (va_A [(h0, .inr (4, [.ref a_t, .ref a_d, .int 0, .int 0, .int 0, .int 0, .int 0])), (a_t, .inr (7, [.ref a_b, .int 0, .int 0]))] sz) [(h0, .inr (4, [.ref a_t, .ref a_d, .int 0, .int (-1), .int 0, .int 0, .int 1])), (a_t, .inr (7, [.ref a_b, .int 0, .int 0]))]) (va_A [(h0, .inr (4, [.ref a_t, .ref a_d, .int 0, .int 0, .int 0, .int 0, .int 0])), (a_t, .inr (7, [.ref a_b, .int 0, .int 0]))] sz)) 0 0 (va_A [(h0, .inr (4, [.ref a_t, .ref a_d, .int 0, .int 0, .int 0, .int 0, .int 0])), (a_t, .inr (7, [.ref a_b, .int 0, .int 0]))] sz) := by
  refine Met.ofW (cc := cX4_readHead) (maxL := 1) (ret := (some .boolean)) (by decide) rfl ?_
  intro p e s m args below meth c s₁ B hml hv
  obtain ⟨rfl, hsz, hP, hK, hD0⟩ := hv
  have hx := B.exec
  have hb := B.bytes
  have hr := B.returns
  have hts := atoms_spec (ws := w_X4_readHead) B.pre
  have hown : s.vm.findClass RX4 = some m.cls := findClass_of_methodNamed B.named
  have hlocks := B.notSynchronized
  subst hsz
  have hD := hD0.self (sz := s.heap.size)
  generalize hAe : va_A [(h0, .inr (4, [.ref a_t, .ref a_d, .int 0, .int 0, .int 0, .int 0, .int 0])), (a_t, .inr (7, [.ref a_b, .int 0, .int 0]))] s.heap.size = A at hD ⊢
  have hA : ∀ q : Nat, s.heap.size ≤ q → A q := fun q h => by rw [← hAe]; exact Or.inr h
  have hS : va_S A s.heap s.heap [] := va_S.rf
  have hP : va_P D vwCl [(h0, .inr (4, [.ref a_t, .ref a_d, .int 0, .int 0, .int 0, .int 0, .int 0])), (a_t, .inr (7, [.ref a_b, .int 0, .int 0]))] s.heap := hP
  have hl := lv_entry ([.ref h0]) (n := 1) (Nat.le_of_ble_eq_true rfl)
  rw [lg_entry_eq]
  generalize (lg_sl ([.ref h0]) ++ List.replicate (1 - (lg_sl ([.ref h0])).length) Slot.unset).toArray = ls at hl ⊢
  have hl : lv_has ls 1 [(0, .ref h0)] := hl
  obtain ⟨H, hHe⟩ : ∃ H : Heap, H = s.heap := ⟨_, rfl⟩
  rw [← hHe] at hP
  have hS : va_S A s.heap H [] := by rw [hHe]; exact hS
  refine pw_heap hHe ?_
  refine lv_aload_n hx hb dX4_readHead_0 rfl (lv_at hl 0 rfl) ?_
  refine lv_iconst (v := 0) hx hb dX4_readHead_1 (by decide) ?_
  refine va_put (D := D) (ci := 4) (v := .int 0) (ty := .int) (C := RX4) (T := TX4) (N := 7) hx hb hts (fun _ h => List.mem_cons_of_mem _ (List.mem_append_left _ (List.mem_append_right _ h))) tyX4 tyX4_ok nmX4 hown hK hP hD hS 0 rfl rfl 2 (by decide) (hts (.fieldLink RX4 26 "LineCites$Reader" "at" "I") (List.mem_of_getElem? (i := 1) rfl)) (fun _ h9 => h9) rfl (by decide +kernel) rfl rfl (Nat.le_of_ble_eq_true rfl) dX4_readHead_2 (fun H locs hP hD hS => ?_)
  have hP : va_P D vwCl [(h0, .inr (4, [.ref a_t, .ref a_d, .int 0, .int 0, .int 0, .int 0, .int 0])), (a_t, .inr (7, [.ref a_b, .int 0, .int 0]))] H := hP
  have hD : va_D A [(h0, .inr (4, [.ref a_t, .ref a_d, .int 0, .int 0, .int 0, .int 0, .int 0])), (a_t, .inr (7, [.ref a_b, .int 0, .int 0]))] := hD
  have hK : va_K D vwCl [] s := hK
  refine lv_aload_n hx hb dX4_readHead_5 rfl (lv_at hl 0 rfl) ?_
  refine lv_bipush (v := 119) hx hb dX4_readHead_6 (by decide) ?_
  have hPc := hP.sub (ws' := [(h0, .inr (4, [.ref a_t, .ref a_d, .int 0, .int 0, .int 0, .int 0, .int 0])), (a_t, .inr (7, [.ref a_b, .int 0, .int 0]))]) [0, 1] rfl
  have hKc := hK.sub (tys' := []) [] rfl
  have hDc := hD.sub (ws' := [(h0, .inr (4, [.ref a_t, .ref a_d, .int 0, .int 0, .int 0, .int 0, .int 0])), (a_t, .inr (7, [.ref a_b, .int 0, .int 0]))]) [0, 1] (by decide) rfl
  have hFc := va_free (wc := [(h0, .inr (4, [.ref a_t, .ref a_d, .int 0, .int 0, .int 0, .int 0, .int 0])), (a_t, .inr (7, [.ref a_b, .int 0, .int 0]))]) hD hS hA [0, 1] rfl
  refine va_calli (va_runV (As := [.int 119]) (rest := []) ⟨hx, hb, hml, hown, hts⟩ (c_X4_expect l D h0 a_t a_d a_b H.size) (cwV 1 hts g_X4_readHead_X4_expect rfl rfl rfl (by decide +kernel) ⟨Nat.le_of_ble_eq_true rfl, Nat.le_of_ble_eq_true rfl⟩) ⟨fun a U g mk q => by obtain ⟨q0, q1, qP, qK, qD⟩ := q; exact ⟨q0, q1, qP, va_K.moved (u := U) (U := U.calling g mk a) (Vm.Alike.refl U.vm) qK, qD⟩, va_recv hKc hPc (ci := 4) (q0 := 0) rfl rfl, fun U hU hW => ⟨rfl, by rw [hU], by rw [hU]; exact hPc, va_K.moved hW.alike hKc, hDc.weaken (fun _ _ _ _ => trivial)⟩⟩ rfl rfl hl.1 rfl (lv_room (Nat.le_of_ble_eq_true rfl)) dX4_readHead_8 ⟨Nat.le_of_ble_eq_true rfl, Nat.le_of_ble_eq_true rfl⟩) hS (fun q _ h => hFc q h) hFc (fun r1 u t H1 locs ht hvm hw hB hz1 hk1 hS => ?_)
  obtain ⟨hP1, hK1, hD1⟩ := hB
  rw [ht] at hP1
  have hK1 := va_K.moved hvm.symm hK1
  obtain ⟨hP, hD⟩ := va_join (wr := []) (w1 := [(h0, .inr (4, [.ref a_t, .ref a_d, .int 0, .int (-1), .int 0, .int 0, .int 1])), (a_t, .inr (7, [.ref a_b, .int 0, .int 0]))]) hP hD [0, 1] [] rfl rfl (by decide) (by decide) hk1 hFc hP1 hD1
  have hK := (hK.sub (tys' := []) [] rfl).app hK1
  generalize H1 = H at hP hS ⊢
  have hP : va_P D vwCl [(h0, .inr (4, [.ref a_t, .ref a_d, .int 0, .int (-1), .int 0, .int 0, .int 1])), (a_t, .inr (7, [.ref a_b, .int 0, .int 0]))] H := hP
  have hD : va_D A [(h0, .inr (4, [.ref a_t, .ref a_d, .int 0, .int (-1), .int 0, .int 0, .int 1])), (a_t, .inr (7, [.ref a_b, .int 0, .int 0]))] := hD
  have hK : va_K D vwCl [] s := hK
  refine W.widen (k := 0) (n := 0) (Nat.le_of_ble_eq_true rfl) (Nat.le_of_ble_eq_true rfl) ?_
  obtain rfl : r1 = 0 := hw
  refine lv_if_eq (tgt := 23) hx hb dX4_readHead_11 (by decide) (fun c2 => ?_) (fun c2 => absurd (by decide) c2)
  refine lv_iconst (v := 0) hx hb dX4_readHead_23 (by decide) ?_
  have hP9 := hP.sub (ws' := [(h0, .inr (4, [.ref a_t, .ref a_d, .int 0, .int (-1), .int 0, .int 0, .int 1])), (a_t, .inr (7, [.ref a_b, .int 0, .int 0]))]) [0, 1] rfl
  have hD9 := hD.sub (ws' := [(h0, .inr (4, [.ref a_t, .ref a_d, .int 0, .int (-1), .int 0, .int 0, .int 1])), (a_t, .inr (7, [.ref a_b, .int 0, .int 0]))]) [0, 1] (by decide) rfl
  have hK9 := hK.sub (tys' := []) [] rfl
  refine W.widen (k := 0) (n := 0) (Nat.le_of_ble_eq_true rfl) (Nat.le_of_ble_eq_true rfl) ?_
  exact W.zret (v := 0) (ty := .boolean) hx hb hr rfl (fun t ht hW => ⟨⟨0, (), rfl, rfl, by rw [ht]; exact hP9, va_K.moved hW.alike hK9, hD9⟩, hS.F ht⟩) hS.2.2 dX4_readHead_24
def w_X4_faultNumber : List Cond := .code yX4_faultNumber cX4_faultNumber 1 (some .int) :: ([.fieldLink RX4 19 "LineCites$Reader" "faultNumber" "I"] ++ wsX40)
set_option maxHeartbeats 4000000 in
set_option maxRecDepth 100000 in
theorem c_X4_faultNumber (l : Launch) (D : va_G) (h0 : Nat) (a_t : Nat) (a_d : Nat) : Met l yX4_faultNumber w_X4_faultNumber ({ frames := 0, cells := 0, slots := 0, locals := 0 }) (va_Pc [.ref h0] (fun U => va_P D vwCl [(h0, .inr (4, [.ref a_t, .ref a_d, .int 0, .int (-1), .int 0, .int 0, .int 1]))] U.heap ∧ va_K D vwCl [] U)) (va_Qi (fun (r : Int32) (_ : Unit) => r = 1) (fun _ _ => True) (fun _ => False)) 0 0 (fun _ => False) := by
  refine Met.ofW (cc := cX4_faultNumber) (maxL := 1) (ret := (some .int)) (by decide) rfl ?_
  intro p e s m args below meth c s₁ B hml hv
  obtain ⟨rfl, hP, hK⟩ := hv
  have hx := B.exec
  have hb := B.bytes
  have hr := B.returns
  have hts := atoms_spec (ws := w_X4_faultNumber) B.pre
  have hown : s.vm.findClass RX4 = some m.cls := findClass_of_methodNamed B.named
  have hlocks := B.notSynchronized
  have hS : va_S (fun _ : Nat => False) s.heap s.heap [] := va_S.rf
  have hP : va_P D vwCl [(h0, .inr (4, [.ref a_t, .ref a_d, .int 0, .int (-1), .int 0, .int 0, .int 1]))] s.heap := hP
  have hl := lv_entry ([.ref h0]) (n := 1) (Nat.le_of_ble_eq_true rfl)
  rw [lg_entry_eq]
  generalize (lg_sl ([.ref h0]) ++ List.replicate (1 - (lg_sl ([.ref h0])).length) Slot.unset).toArray = ls at hl ⊢
  have hl : lv_has ls 1 [(0, .ref h0)] := hl
  obtain ⟨H, hHe⟩ : ∃ H : Heap, H = s.heap := ⟨_, rfl⟩
  rw [← hHe] at hP
  have hS : va_S (fun _ : Nat => False) s.heap H [] := by rw [hHe]; exact hS
  refine pw_heap hHe ?_
  refine lv_aload_n hx hb dX4_faultNumber_0 rfl (lv_at hl 0 rfl) ?_
  refine va_get (D := D) (ci := 4) (v := .int 1) (C := RX4) (T := TX4) (N := 7) hx hb hts (fun _ h => List.mem_cons_of_mem _ (List.mem_append_right _ h)) hown hK hP 0 rfl rfl 6 (by decide) (hts (.fieldLink RX4 19 "LineCites$Reader" "faultNumber" "I") (List.mem_of_getElem? (i := 1) rfl)) (fun _ h9 => h9) rfl dX4_faultNumber_1 ?_
  exact W.iret (v := 1) hx hb hr (fun t ht hW => ⟨⟨1, (), rfl, rfl, trivial⟩, hS.F ht⟩) hS.2.2 dX4_faultNumber_4
def w_X4_faultPlace : List Cond := .code yX4_faultPlace cX4_faultPlace 1 (some .int) :: ([.fieldLink RX4 23 "LineCites$Reader" "place" "I"] ++ wsX40)
set_option maxHeartbeats 4000000 in
set_option maxRecDepth 100000 in
theorem c_X4_faultPlace (l : Launch) (D : va_G) (h0 : Nat) (a_t : Nat) (a_d : Nat) : Met l yX4_faultPlace w_X4_faultPlace ({ frames := 0, cells := 0, slots := 0, locals := 0 }) (va_Pc [.ref h0] (fun U => va_P D vwCl [(h0, .inr (4, [.ref a_t, .ref a_d, .int 0, .int (-1), .int 0, .int 0, .int 1]))] U.heap ∧ va_K D vwCl [] U)) (va_Qi (fun (r : Int32) (_ : Unit) => r = 0) (fun _ _ => True) (fun _ => False)) 0 0 (fun _ => False) := by
  refine Met.ofW (cc := cX4_faultPlace) (maxL := 1) (ret := (some .int)) (by decide) rfl ?_
  intro p e s m args below meth c s₁ B hml hv
  obtain ⟨rfl, hP, hK⟩ := hv
  have hx := B.exec
  have hb := B.bytes
  have hr := B.returns
  have hts := atoms_spec (ws := w_X4_faultPlace) B.pre
  have hown : s.vm.findClass RX4 = some m.cls := findClass_of_methodNamed B.named
  have hlocks := B.notSynchronized
  have hS : va_S (fun _ : Nat => False) s.heap s.heap [] := va_S.rf
  have hP : va_P D vwCl [(h0, .inr (4, [.ref a_t, .ref a_d, .int 0, .int (-1), .int 0, .int 0, .int 1]))] s.heap := hP
  have hl := lv_entry ([.ref h0]) (n := 1) (Nat.le_of_ble_eq_true rfl)
  rw [lg_entry_eq]
  generalize (lg_sl ([.ref h0]) ++ List.replicate (1 - (lg_sl ([.ref h0])).length) Slot.unset).toArray = ls at hl ⊢
  have hl : lv_has ls 1 [(0, .ref h0)] := hl
  obtain ⟨H, hHe⟩ : ∃ H : Heap, H = s.heap := ⟨_, rfl⟩
  rw [← hHe] at hP
  have hS : va_S (fun _ : Nat => False) s.heap H [] := by rw [hHe]; exact hS
  refine pw_heap hHe ?_
  refine lv_aload_n hx hb dX4_faultPlace_0 rfl (lv_at hl 0 rfl) ?_
  refine va_get (D := D) (ci := 4) (v := .int 0) (C := RX4) (T := TX4) (N := 7) hx hb hts (fun _ h => List.mem_cons_of_mem _ (List.mem_append_right _ h)) hown hK hP 0 rfl rfl 4 (by decide) (hts (.fieldLink RX4 23 "LineCites$Reader" "place" "I") (List.mem_of_getElem? (i := 1) rfl)) (fun _ h9 => h9) rfl dX4_faultPlace_1 ?_
  exact W.iret (v := 0) hx hb hr (fun t ht hW => ⟨⟨0, (), rfl, rfl, trivial⟩, hS.F ht⟩) hS.2.2 dX4_faultPlace_4
def w_X9_work : List Cond := .code yX9_work cX9_work 2 (some .int) :: ([.fieldLink RX9 31 "LineCites" "reader" "LLineCites$Reader;", .methodLink RX9 98 yX4_readHead, .instanceMethod yX4_readHead, .selects RX4 yX4_readHead yX4_readHead, .initialized RX4, .code yX4_readHead cX4_readHead 1 (some .boolean), .fieldLink RX4 26 "LineCites$Reader" "at" "I", .methodLink RX4 29 yX4_expect, .instanceMethod yX4_expect, .selects RX4 yX4_expect yX4_expect, .code yX4_expect cX4_expect 2 (some .boolean), .methodLink RX4 45 yX4_step, .instanceMethod yX4_step, .selects RX4 yX4_step yX4_step, .code yX4_step cX4_step 2 none, .fieldLink RX4 23 "LineCites$Reader" "place" "I", .fieldLink RX4 9 "LineCites$Reader" "tape" "LLineCites$Tape;", .methodLink RX4 87 yX7_size, .instanceMethod yX7_size, .selects RX7 yX7_size yX7_size, .initialized RX7, .code yX7_size cX7_size 1 (some .int), .fieldLink RX7 15 "LineCites$Tape" "size" "I", .fieldLink RX4 48 "LineCites$Reader" "token" "I", .methodLink RX4 36 yX4_refuse, .instanceMethod yX4_refuse, .selects RX4 yX4_refuse yX4_refuse, .code yX4_refuse cX4_refuse 2 (some .boolean), .fieldLink RX4 19 "LineCites$Reader" "faultNumber" "I", .fieldLink RX9 10 "LineCites" "tape" "LLineCites$Tape;", .methodLink RX9 105 yX7_empty, .instanceMethod yX7_empty, .selects RX7 yX7_empty yX7_empty, .code yX7_empty cX7_empty 1 none, .methodLink RX9 108 yX4_faultNumber, .instanceMethod yX4_faultNumber, .selects RX4 yX4_faultNumber yX4_faultNumber, .code yX4_faultNumber cX4_faultNumber 1 (some .int), .methodLink RX9 111 yX7_noteFault, .instanceMethod yX7_noteFault, .selects RX7 yX7_noteFault yX7_noteFault, .code yX7_noteFault cX7_noteFault 2 none, .fieldLink RX7 19 "LineCites$Tape" "latestFault" "I", .constant RX9 115 (-1000100), .methodLink RX9 116 yX4_faultPlace, .instanceMethod yX4_faultPlace, .selects RX4 yX4_faultPlace yX4_faultPlace, .code yX4_faultPlace cX4_faultPlace 1 (some .int)] ++ wsX90 ++ wsX40 ++ wsX70)
set_option maxRecDepth 20000 in
theorem g_X9_work_X4_readHead : GoodIn w_X9_work (wsV RX9 98 RX4 yX4_readHead w_X4_readHead) := goodIn_r _ [2, 3, 4, 5, 6, 7, 8, 9, 10, 5, 11, 12, 13, 14, 15, 16, 17, 18, 19, 20, 21, 22, 23, 24, 25, 26, 27, 28, 29, 63, 64, 65, 66, 67, 68, 69, 70, 71, 72] rfl (by decide +kernel)
set_option maxRecDepth 20000 in
theorem g_X9_work_X7_empty : GoodIn w_X9_work (wsV RX9 105 RX7 yX7_empty w_X7_empty) := goodIn_r _ [31, 32, 33, 21, 34, 23, 70, 71, 72] rfl (by decide +kernel)
set_option maxRecDepth 20000 in
theorem g_X9_work_X4_faultNumber : GoodIn w_X9_work (wsV RX9 108 RX4 yX4_faultNumber w_X4_faultNumber) := goodIn_r _ [35, 36, 37, 5, 38, 29, 63, 64, 65, 66, 67, 68, 69] rfl (by decide +kernel)
set_option maxRecDepth 20000 in
theorem g_X9_work_X7_noteFault : GoodIn w_X9_work (wsV RX9 111 RX7 yX7_noteFault w_X7_noteFault) := goodIn_r _ [39, 40, 41, 21, 42, 43, 70, 71, 72] rfl (by decide +kernel)
set_option maxRecDepth 20000 in
theorem g_X9_work_X4_faultPlace : GoodIn w_X9_work (wsV RX9 116 RX4 yX4_faultPlace w_X4_faultPlace) := goodIn_r _ [45, 46, 47, 5, 48, 16, 63, 64, 65, 66, 67, 68, 69] rfl (by decide +kernel)
set_option maxHeartbeats 4000000 in
set_option maxRecDepth 100000 in
theorem c_X9_work (l : Launch) (D : va_G) (h0 : Nat) (a_tape : Nat) (a_now : Nat) (a_draft : Nat) (a_reader : Nat) (a_acts : Nat) (a_images : Nat) (a_one : Nat) (a_other : Nat) (a_third : Nat) (a_spans : Nat) (a_back : Nat) (a_span : Nat) (a_middle : Nat) (a_reached : Nat) (a_b : Nat) (sz : Nat) : Met l yX9_work w_X9_work ({ frames := 4, cells := 0, slots := 0, locals := 82 }) (va_Pc [.ref h0] (fun U => U.heap.size = sz ∧ va_P D vwCl [(h0, .inr (9, [.ref a_tape, .ref a_now, .ref a_draft, .ref a_reader, .ref a_acts, .ref a_images, .ref a_one, .ref a_other, .ref a_third, .ref a_spans, .ref a_back, .ref a_span, .ref a_middle, .ref a_reached])), (a_tape, .inr (7, [.ref a_b, .int 0, .int 0])), (a_reader, .inr (4, [.ref a_tape, .ref a_draft, .int 0, .int 0, .int 0, .int 0, .int 0]))] U.heap ∧ va_K D vwCl [] U ∧ va_D (fun _ => True) [(h0, .inr (9, [.ref a_tape, .ref a_now, .ref a_draft, .ref a_reader, .ref a_acts, .ref a_images, .ref a_one, .ref a_other, .ref a_third, .ref a_spans, .ref a_back, .ref a_span, .ref a_middle, .ref a_reached])), (a_tape, .inr (7, [.ref a_b, .int 0, .int 0])), (a_reader, .inr (4, [.ref a_tape, .ref a_draft, .int 0, .int 0, .int 0, .int 0, .int 0]))])) (va_Qi (fun (r : Int32) (_ : Unit) => r = (-1000100)) (fun (_ : Unit) t => va_P D vwCl [] t.heap ∧ va_K D vwCl [] t ∧ va_D (va_A [(h0, .inr (9, [.ref a_tape, .ref a_now, .ref a_draft, .ref a_reader, .ref a_acts, .ref a_images, .ref a_one, .ref a_other, .ref a_third, .ref a_spans, .ref a_back, .ref a_span, .ref a_middle, .ref a_reached])), (a_tape, .inr (7, [.ref a_b, .int 0, .int 0])), (a_reader, .inr (4, [.ref a_tape, .ref a_draft, .int 0, .int 0, .int 0, .int 0, .int 0]))] sz) []) (va_A [(h0, .inr (9, [.ref a_tape, .ref a_now, .ref a_draft, .ref a_reader, .ref a_acts, .ref a_images, .ref a_one, .ref a_other, .ref a_third, .ref a_spans, .ref a_back, .ref a_span, .ref a_middle, .ref a_reached])), (a_tape, .inr (7, [.ref a_b, .int 0, .int 0])), (a_reader, .inr (4, [.ref a_tape, .ref a_draft, .int 0, .int 0, .int 0, .int 0, .int 0]))] sz)) 0 0 (va_A [(h0, .inr (9, [.ref a_tape, .ref a_now, .ref a_draft, .ref a_reader, .ref a_acts, .ref a_images, .ref a_one, .ref a_other, .ref a_third, .ref a_spans, .ref a_back, .ref a_span, .ref a_middle, .ref a_reached])), (a_tape, .inr (7, [.ref a_b, .int 0, .int 0])), (a_reader, .inr (4, [.ref a_tape, .ref a_draft, .int 0, .int 0, .int 0, .int 0, .int 0]))] sz) := by
  refine Met.ofW (cc := cX9_work) (maxL := 2) (ret := (some .int)) (by decide) rfl ?_
  intro p e s m args below meth c s₁ B hml hv
  obtain ⟨rfl, hsz, hP, hK, hD0⟩ := hv
  have hx := B.exec
  have hb := B.bytes
  have hr := B.returns
  have hts := atoms_spec (ws := w_X9_work) B.pre
  have hown : s.vm.findClass RX9 = some m.cls := findClass_of_methodNamed B.named
  have hlocks := B.notSynchronized
  subst hsz
  have hD := hD0.self (sz := s.heap.size)
  generalize hAe : va_A [(h0, .inr (9, [.ref a_tape, .ref a_now, .ref a_draft, .ref a_reader, .ref a_acts, .ref a_images, .ref a_one, .ref a_other, .ref a_third, .ref a_spans, .ref a_back, .ref a_span, .ref a_middle, .ref a_reached])), (a_tape, .inr (7, [.ref a_b, .int 0, .int 0])), (a_reader, .inr (4, [.ref a_tape, .ref a_draft, .int 0, .int 0, .int 0, .int 0, .int 0]))] s.heap.size = A at hD ⊢
  have hA : ∀ q : Nat, s.heap.size ≤ q → A q := fun q h => by rw [← hAe]; exact Or.inr h
  have hS : va_S A s.heap s.heap [] := va_S.rf
  have hP : va_P D vwCl [(h0, .inr (9, [.ref a_tape, .ref a_now, .ref a_draft, .ref a_reader, .ref a_acts, .ref a_images, .ref a_one, .ref a_other, .ref a_third, .ref a_spans, .ref a_back, .ref a_span, .ref a_middle, .ref a_reached])), (a_tape, .inr (7, [.ref a_b, .int 0, .int 0])), (a_reader, .inr (4, [.ref a_tape, .ref a_draft, .int 0, .int 0, .int 0, .int 0, .int 0]))] s.heap := hP
  have hl := lv_entry ([.ref h0]) (n := 2) (Nat.le_of_ble_eq_true rfl)
  rw [lg_entry_eq]
  generalize (lg_sl ([.ref h0]) ++ List.replicate (2 - (lg_sl ([.ref h0])).length) Slot.unset).toArray = ls at hl ⊢
  have hl : lv_has ls 2 [(0, .ref h0)] := hl
  obtain ⟨H, hHe⟩ : ∃ H : Heap, H = s.heap := ⟨_, rfl⟩
  rw [← hHe] at hP
  have hS : va_S A s.heap H [] := by rw [hHe]; exact hS
  refine pw_heap hHe ?_
  refine lv_aload_n hx hb dX9_work_0 rfl (lv_at hl 0 rfl) ?_
  refine va_get (D := D) (ci := 9) (v := .ref a_reader) (C := RX9) (T := TX9) (N := 14) hx hb hts (fun _ h => List.mem_cons_of_mem _ (List.mem_append_left _ (List.mem_append_left _ (List.mem_append_right _ h)))) hown hK hP 0 rfl rfl 3 (by decide) (hts (.fieldLink RX9 31 "LineCites" "reader" "LLineCites$Reader;") (List.mem_of_getElem? (i := 1) rfl)) (fun _ h9 => h9) rfl dX9_work_1 ?_
  have hPc := hP.sub (ws' := [(a_reader, .inr (4, [.ref a_tape, .ref a_draft, .int 0, .int 0, .int 0, .int 0, .int 0])), (a_tape, .inr (7, [.ref a_b, .int 0, .int 0]))]) [2, 1] rfl
  have hKc := hK.sub (tys' := []) [] rfl
  have hDc := hD.sub (ws' := [(a_reader, .inr (4, [.ref a_tape, .ref a_draft, .int 0, .int 0, .int 0, .int 0, .int 0])), (a_tape, .inr (7, [.ref a_b, .int 0, .int 0]))]) [2, 1] (by decide) rfl
  have hFc := va_free (wc := [(a_reader, .inr (4, [.ref a_tape, .ref a_draft, .int 0, .int 0, .int 0, .int 0, .int 0])), (a_tape, .inr (7, [.ref a_b, .int 0, .int 0]))]) hD hS hA [2, 1] rfl
  refine va_calli (va_runV (As := []) (rest := []) ⟨hx, hb, hml, hown, hts⟩ (c_X4_readHead l D a_reader a_tape a_draft a_b H.size) (cwV 0 hts g_X9_work_X4_readHead rfl rfl rfl (by decide +kernel) ⟨Nat.le_of_ble_eq_true rfl, Nat.le_of_ble_eq_true rfl⟩) ⟨fun a U g mk q => by obtain ⟨q0, q1, qP, qK, qD⟩ := q; exact ⟨q0, q1, qP, va_K.moved (u := U) (U := U.calling g mk a) (Vm.Alike.refl U.vm) qK, qD⟩, va_recv hKc hPc (ci := 4) (q0 := 0) rfl rfl, fun U hU hW => ⟨rfl, by rw [hU], by rw [hU]; exact hPc, va_K.moved hW.alike hKc, hDc.weaken (fun _ _ _ _ => trivial)⟩⟩ rfl rfl hl.1 rfl (lv_room (Nat.le_of_ble_eq_true rfl)) dX9_work_4 ⟨Nat.le_of_ble_eq_true rfl, Nat.le_of_ble_eq_true rfl⟩) hS (fun q _ h => hFc q h) hFc (fun r1 u t H1 locs ht hvm hw hB hz1 hk1 hS => ?_)
  obtain ⟨hP1, hK1, hD1⟩ := hB
  rw [ht] at hP1
  have hK1 := va_K.moved hvm.symm hK1
  obtain ⟨hP, hD⟩ := va_join (wr := [(h0, .inr (9, [.ref a_tape, .ref a_now, .ref a_draft, .ref a_reader, .ref a_acts, .ref a_images, .ref a_one, .ref a_other, .ref a_third, .ref a_spans, .ref a_back, .ref a_span, .ref a_middle, .ref a_reached]))]) (w1 := [(a_reader, .inr (4, [.ref a_tape, .ref a_draft, .int 0, .int (-1), .int 0, .int 0, .int 1])), (a_tape, .inr (7, [.ref a_b, .int 0, .int 0]))]) hP hD [2, 1] [0] rfl rfl (by decide) (by decide) hk1 hFc hP1 hD1
  have hK := (hK.sub (tys' := []) [] rfl).app hK1
  generalize H1 = H at hP hS ⊢
  have hP : va_P D vwCl [(h0, .inr (9, [.ref a_tape, .ref a_now, .ref a_draft, .ref a_reader, .ref a_acts, .ref a_images, .ref a_one, .ref a_other, .ref a_third, .ref a_spans, .ref a_back, .ref a_span, .ref a_middle, .ref a_reached])), (a_reader, .inr (4, [.ref a_tape, .ref a_draft, .int 0, .int (-1), .int 0, .int 0, .int 1])), (a_tape, .inr (7, [.ref a_b, .int 0, .int 0]))] H := hP
  have hD : va_D A [(h0, .inr (9, [.ref a_tape, .ref a_now, .ref a_draft, .ref a_reader, .ref a_acts, .ref a_images, .ref a_one, .ref a_other, .ref a_third, .ref a_spans, .ref a_back, .ref a_span, .ref a_middle, .ref a_reached])), (a_reader, .inr (4, [.ref a_tape, .ref a_draft, .int 0, .int (-1), .int 0, .int 0, .int 1])), (a_tape, .inr (7, [.ref a_b, .int 0, .int 0]))] := hD
  have hK : va_K D vwCl [] s := hK
  refine W.widen (k := 0) (n := 0) (Nat.le_of_ble_eq_true rfl) (Nat.le_of_ble_eq_true rfl) ?_
  obtain rfl : r1 = 0 := hw
  refine lv_if_eq (tgt := 24) hx hb dX9_work_7 (by decide) (fun c2 => ?_) (fun c2 => absurd (by decide) c2)
  refine lv_iconst (v := 0) hx hb dX9_work_24 (by decide) ?_
  refine lv_istore_n (lv' := [(1, .int 0), (0, .ref h0)]) hx hb dX9_work_25 rfl hl (by decide) rfl (fun ls hl => ?_)
  refine lv_aload_n hx hb dX9_work_26 rfl (lv_at hl 1 rfl) ?_
  refine va_get (D := D) (ci := 9) (v := .ref a_tape) (C := RX9) (T := TX9) (N := 14) hx hb hts (fun _ h => List.mem_cons_of_mem _ (List.mem_append_left _ (List.mem_append_left _ (List.mem_append_right _ h)))) hown hK hP 0 rfl rfl 0 (by decide) (hts (.fieldLink RX9 10 "LineCites" "tape" "LLineCites$Tape;") (List.mem_of_getElem? (i := 30) rfl)) (fun _ h9 => h9) rfl dX9_work_27 ?_
  have hPc := hP.sub (ws' := [(a_tape, .inr (7, [.ref a_b, .int 0, .int 0]))]) [2] rfl
  have hKc := hK.sub (tys' := []) [] rfl
  have hDc := hD.sub (ws' := [(a_tape, .inr (7, [.ref a_b, .int 0, .int 0]))]) [2] (by decide) rfl
  have hFc := va_free (wc := [(a_tape, .inr (7, [.ref a_b, .int 0, .int 0]))]) hD hS hA [2] rfl
  refine va_callv (va_runV (As := []) (rest := []) ⟨hx, hb, hml, hown, hts⟩ (c_X7_empty l D a_tape a_b H.size) (cwV 0 hts g_X9_work_X7_empty rfl rfl rfl (by decide +kernel) ⟨Nat.le_of_ble_eq_true rfl, Nat.le_of_ble_eq_true rfl⟩) ⟨fun a U g mk q => by obtain ⟨q0, q1, qP, qK, qD⟩ := q; exact ⟨q0, q1, qP, va_K.moved (u := U) (U := U.calling g mk a) (Vm.Alike.refl U.vm) qK, qD⟩, va_recv hKc hPc (ci := 7) (q0 := 0) rfl rfl, fun U hU hW => ⟨rfl, by rw [hU], by rw [hU]; exact hPc, va_K.moved hW.alike hKc, hDc.weaken (fun _ _ _ _ => trivial)⟩⟩ rfl rfl hl.1 rfl (lv_room (Nat.le_of_ble_eq_true rfl)) dX9_work_30 ⟨Nat.le_of_ble_eq_true rfl, Nat.le_of_ble_eq_true rfl⟩) hS (fun q _ h => hFc q h) hFc (fun u t H1 locs ht hvm hw hB hz1 hk1 hS => ?_)
  obtain ⟨hP1, hK1, hD1⟩ := hB
  rw [ht] at hP1
  have hK1 := va_K.moved hvm.symm hK1
  obtain ⟨hP, hD⟩ := va_join (wr := [(h0, .inr (9, [.ref a_tape, .ref a_now, .ref a_draft, .ref a_reader, .ref a_acts, .ref a_images, .ref a_one, .ref a_other, .ref a_third, .ref a_spans, .ref a_back, .ref a_span, .ref a_middle, .ref a_reached])), (a_reader, .inr (4, [.ref a_tape, .ref a_draft, .int 0, .int (-1), .int 0, .int 0, .int 1]))]) (w1 := [(a_tape, .inr (7, [.ref a_b, .int 0, .int 0]))]) hP hD [2] [0, 1] rfl rfl (by decide) (by decide) hk1 hFc hP1 hD1
  have hK := (hK.sub (tys' := []) [] rfl).app hK1
  generalize H1 = H at hP hS ⊢
  have hP : va_P D vwCl [(h0, .inr (9, [.ref a_tape, .ref a_now, .ref a_draft, .ref a_reader, .ref a_acts, .ref a_images, .ref a_one, .ref a_other, .ref a_third, .ref a_spans, .ref a_back, .ref a_span, .ref a_middle, .ref a_reached])), (a_reader, .inr (4, [.ref a_tape, .ref a_draft, .int 0, .int (-1), .int 0, .int 0, .int 1])), (a_tape, .inr (7, [.ref a_b, .int 0, .int 0]))] H := hP
  have hD : va_D A [(h0, .inr (9, [.ref a_tape, .ref a_now, .ref a_draft, .ref a_reader, .ref a_acts, .ref a_images, .ref a_one, .ref a_other, .ref a_third, .ref a_spans, .ref a_back, .ref a_span, .ref a_middle, .ref a_reached])), (a_reader, .inr (4, [.ref a_tape, .ref a_draft, .int 0, .int (-1), .int 0, .int 0, .int 1])), (a_tape, .inr (7, [.ref a_b, .int 0, .int 0]))] := hD
  have hK : va_K D vwCl [] s := hK
  refine W.widen (k := 0) (n := 0) (Nat.le_of_ble_eq_true rfl) (Nat.le_of_ble_eq_true rfl) ?_
  refine lv_iload_n hx hb dX9_work_33 rfl (lv_at hl 0 rfl) ?_
  refine lv_if_ne (tgt := 62) hx hb dX9_work_34 (by decide) (fun c4 => absurd (by decide) c4) (fun c4 => ?_)
  refine lv_aload_n hx hb dX9_work_37 rfl (lv_at hl 1 rfl) ?_
  refine va_get (D := D) (ci := 9) (v := .ref a_tape) (C := RX9) (T := TX9) (N := 14) hx hb hts (fun _ h => List.mem_cons_of_mem _ (List.mem_append_left _ (List.mem_append_left _ (List.mem_append_right _ h)))) hown hK hP 0 rfl rfl 0 (by decide) (hts (.fieldLink RX9 10 "LineCites" "tape" "LLineCites$Tape;") (List.mem_of_getElem? (i := 30) rfl)) (fun _ h9 => h9) rfl dX9_work_38 ?_
  refine lv_aload_n hx hb dX9_work_41 rfl (lv_at hl 1 rfl) ?_
  refine va_get (D := D) (ci := 9) (v := .ref a_reader) (C := RX9) (T := TX9) (N := 14) hx hb hts (fun _ h => List.mem_cons_of_mem _ (List.mem_append_left _ (List.mem_append_left _ (List.mem_append_right _ h)))) hown hK hP 0 rfl rfl 3 (by decide) (hts (.fieldLink RX9 31 "LineCites" "reader" "LLineCites$Reader;") (List.mem_of_getElem? (i := 1) rfl)) (fun _ h9 => h9) rfl dX9_work_42 ?_
  have hPc := hP.sub (ws' := [(a_reader, .inr (4, [.ref a_tape, .ref a_draft, .int 0, .int (-1), .int 0, .int 0, .int 1]))]) [1] rfl
  have hKc := hK.sub (tys' := []) [] rfl
  refine va_calli (va_runV (As := []) (rest := [.ref a_tape]) ⟨hx, hb, hml, hown, hts⟩ (c_X4_faultNumber l D a_reader a_tape a_draft) (cwV 0 hts g_X9_work_X4_faultNumber rfl rfl rfl (by decide +kernel) ⟨Nat.le_of_ble_eq_true rfl, Nat.le_of_ble_eq_true rfl⟩) ⟨fun a U g mk q => by obtain ⟨q0, qP, qK⟩ := q; exact ⟨q0, qP, va_K.moved (u := U) (U := U.calling g mk a) (Vm.Alike.refl U.vm) qK⟩, va_recv hKc hPc (ci := 4) (q0 := 0) rfl rfl, fun U hU hW => ⟨rfl, by rw [hU]; exact hPc, va_K.moved hW.alike hKc⟩⟩ rfl rfl hl.1 rfl (lv_room (Nat.le_of_ble_eq_true rfl)) dX9_work_45 ⟨Nat.le_of_ble_eq_true rfl, Nat.le_of_ble_eq_true rfl⟩) hS (fun _ _ h => h.elim) (fun _ h => h.elim) (fun r5 u t H1 locs ht hvm hw hB hz1 hk1 hS => ?_)
  have hP := pw_keep hP (fun q hq => hk1 q hq (fun h => h))
  generalize H1 = H at hP hS ⊢
  refine W.widen (k := 0) (n := 0) (Nat.le_of_ble_eq_true rfl) (Nat.le_of_ble_eq_true rfl) ?_
  obtain rfl : r5 = 1 := hw
  have hPc := hP.sub (ws' := [(a_tape, .inr (7, [.ref a_b, .int 0, .int 0]))]) [2] rfl
  have hKc := hK.sub (tys' := []) [] rfl
  have hDc := hD.sub (ws' := [(a_tape, .inr (7, [.ref a_b, .int 0, .int 0]))]) [2] (by decide) rfl
  have hFc := va_free (wc := [(a_tape, .inr (7, [.ref a_b, .int 0, .int 0]))]) hD hS hA [2] rfl
  refine va_callv (va_runV (As := [.int 1]) (rest := []) ⟨hx, hb, hml, hown, hts⟩ (c_X7_noteFault l D a_tape a_b H.size) (cwV 1 hts g_X9_work_X7_noteFault rfl rfl rfl (by decide +kernel) ⟨Nat.le_of_ble_eq_true rfl, Nat.le_of_ble_eq_true rfl⟩) ⟨fun a U g mk q => by obtain ⟨q0, q1, qP, qK, qD⟩ := q; exact ⟨q0, q1, qP, va_K.moved (u := U) (U := U.calling g mk a) (Vm.Alike.refl U.vm) qK, qD⟩, va_recv hKc hPc (ci := 7) (q0 := 0) rfl rfl, fun U hU hW => ⟨rfl, by rw [hU], by rw [hU]; exact hPc, va_K.moved hW.alike hKc, hDc.weaken (fun _ _ _ _ => trivial)⟩⟩ rfl rfl hl.1 rfl (lv_room (Nat.le_of_ble_eq_true rfl)) dX9_work_48 ⟨Nat.le_of_ble_eq_true rfl, Nat.le_of_ble_eq_true rfl⟩) hS (fun q _ h => hFc q h) hFc (fun u t H1 locs ht hvm hw hB hz1 hk1 hS => ?_)
  obtain ⟨hP1, hK1, hD1⟩ := hB
  rw [ht] at hP1
  have hK1 := va_K.moved hvm.symm hK1
  obtain ⟨hP, hD⟩ := va_join (wr := [(h0, .inr (9, [.ref a_tape, .ref a_now, .ref a_draft, .ref a_reader, .ref a_acts, .ref a_images, .ref a_one, .ref a_other, .ref a_third, .ref a_spans, .ref a_back, .ref a_span, .ref a_middle, .ref a_reached])), (a_reader, .inr (4, [.ref a_tape, .ref a_draft, .int 0, .int (-1), .int 0, .int 0, .int 1]))]) (w1 := [(a_tape, .inr (7, [.ref a_b, .int 0, .int 1]))]) hP hD [2] [0, 1] rfl rfl (by decide) (by decide) hk1 hFc hP1 hD1
  have hK := (hK.sub (tys' := []) [] rfl).app hK1
  generalize H1 = H at hP hS ⊢
  have hP : va_P D vwCl [(h0, .inr (9, [.ref a_tape, .ref a_now, .ref a_draft, .ref a_reader, .ref a_acts, .ref a_images, .ref a_one, .ref a_other, .ref a_third, .ref a_spans, .ref a_back, .ref a_span, .ref a_middle, .ref a_reached])), (a_reader, .inr (4, [.ref a_tape, .ref a_draft, .int 0, .int (-1), .int 0, .int 0, .int 1])), (a_tape, .inr (7, [.ref a_b, .int 0, .int 1]))] H := hP
  have hD : va_D A [(h0, .inr (9, [.ref a_tape, .ref a_now, .ref a_draft, .ref a_reader, .ref a_acts, .ref a_images, .ref a_one, .ref a_other, .ref a_third, .ref a_spans, .ref a_back, .ref a_span, .ref a_middle, .ref a_reached])), (a_reader, .inr (4, [.ref a_tape, .ref a_draft, .int 0, .int (-1), .int 0, .int 0, .int 1])), (a_tape, .inr (7, [.ref a_b, .int 0, .int 1]))] := hD
  have hK : va_K D vwCl [] s := hK
  refine W.widen (k := 0) (n := 0) (Nat.le_of_ble_eq_true rfl) (Nat.le_of_ble_eq_true rfl) ?_
  refine lv_ldc hx hb hown (hts (.constant RX9 115 (-1000100)) (List.mem_of_getElem? (i := 44) rfl)) dX9_work_51 ?_
  refine lv_aload_n hx hb dX9_work_53 rfl (lv_at hl 1 rfl) ?_
  refine va_get (D := D) (ci := 9) (v := .ref a_reader) (C := RX9) (T := TX9) (N := 14) hx hb hts (fun _ h => List.mem_cons_of_mem _ (List.mem_append_left _ (List.mem_append_left _ (List.mem_append_right _ h)))) hown hK hP 0 rfl rfl 3 (by decide) (hts (.fieldLink RX9 31 "LineCites" "reader" "LLineCites$Reader;") (List.mem_of_getElem? (i := 1) rfl)) (fun _ h9 => h9) rfl dX9_work_54 ?_
  have hPc := hP.sub (ws' := [(a_reader, .inr (4, [.ref a_tape, .ref a_draft, .int 0, .int (-1), .int 0, .int 0, .int 1]))]) [1] rfl
  have hKc := hK.sub (tys' := []) [] rfl
  refine va_calli (va_runV (As := []) (rest := [.int (-1000100)]) ⟨hx, hb, hml, hown, hts⟩ (c_X4_faultPlace l D a_reader a_tape a_draft) (cwV 0 hts g_X9_work_X4_faultPlace rfl rfl rfl (by decide +kernel) ⟨Nat.le_of_ble_eq_true rfl, Nat.le_of_ble_eq_true rfl⟩) ⟨fun a U g mk q => by obtain ⟨q0, qP, qK⟩ := q; exact ⟨q0, qP, va_K.moved (u := U) (U := U.calling g mk a) (Vm.Alike.refl U.vm) qK⟩, va_recv hKc hPc (ci := 4) (q0 := 0) rfl rfl, fun U hU hW => ⟨rfl, by rw [hU]; exact hPc, va_K.moved hW.alike hKc⟩⟩ rfl rfl hl.1 rfl (lv_room (Nat.le_of_ble_eq_true rfl)) dX9_work_57 ⟨Nat.le_of_ble_eq_true rfl, Nat.le_of_ble_eq_true rfl⟩) hS (fun _ _ h => h.elim) (fun _ h => h.elim) (fun r7 u t H1 locs ht hvm hw hB hz1 hk1 hS => ?_)
  have hP := pw_keep hP (fun q hq => hk1 q hq (fun h => h))
  generalize H1 = H at hP hS ⊢
  refine W.widen (k := 0) (n := 0) (Nat.le_of_ble_eq_true rfl) (Nat.le_of_ble_eq_true rfl) ?_
  obtain rfl : r7 = 0 := hw
  refine lv_isub hx hb dX9_work_60 ?_
  refine lv_topi (fun x8 ex8 => ?_)
  obtain rfl : x8 = (-1000100) := ex8.trans (by decide)
  have hP9 := hP.sub (ws' := []) [] rfl
  have hD9 := hD.sub (ws' := []) [] (by decide) rfl
  have hK9 := hK.sub (tys' := []) [] rfl
  refine W.widen (k := 0) (n := 0) (Nat.le_of_ble_eq_true rfl) (Nat.le_of_ble_eq_true rfl) ?_
  exact W.iret (v := (-1000100)) hx hb hr (fun t ht hW => ⟨⟨(-1000100), (), rfl, rfl, by rw [ht]; exact hP9, va_K.moved hW.alike hK9, hD9⟩, hS.F ht⟩) hS.2.2 dX9_work_61
end
section
theorem dX5_init_0 : decode cX5_init 0 = .ok (.aload_n 0, 1) := by decide +kernel
theorem dX5_init_1 : decode cX5_init 1 = .ok (.invokespecial 3, 3) := by decide +kernel
theorem dX5_init_4 : decode cX5_init 4 = .ok (.return_, 1) := by decide +kernel
theorem dX2_init_0 : decode cX2_init 0 = .ok (.aload_n 0, 1) := by decide +kernel
theorem dX2_init_1 : decode cX2_init 1 = .ok (.invokespecial 3, 3) := by decide +kernel
theorem dX2_init_4 : decode cX2_init 4 = .ok (.aload_n 0, 1) := by decide +kernel
theorem dX2_init_5 : decode cX2_init 5 = .ok (.sipush 1000, 3) := by decide +kernel
theorem dX2_init_8 : decode cX2_init 8 = .ok (.newarray .int, 2) := by decide +kernel
theorem dX2_init_10 : decode cX2_init 10 = .ok (.putfield 9, 3) := by decide +kernel
theorem dX2_init_13 : decode cX2_init 13 = .ok (.aload_n 0, 1) := by decide +kernel
theorem dX2_init_14 : decode cX2_init 14 = .ok (.new 15, 3) := by decide +kernel
theorem dX2_init_17 : decode cX2_init 17 = .ok (.dup, 1) := by decide +kernel
theorem dX2_init_18 : decode cX2_init 18 = .ok (.invokespecial 17, 3) := by decide +kernel
theorem dX2_init_21 : decode cX2_init 21 = .ok (.putfield 18, 3) := by decide +kernel
theorem dX2_init_24 : decode cX2_init 24 = .ok (.aload_n 0, 1) := by decide +kernel
theorem dX2_init_25 : decode cX2_init 25 = .ok (.iconst 1, 1) := by decide +kernel
theorem dX2_init_26 : decode cX2_init 26 = .ok (.putfield 22, 3) := by decide +kernel
theorem dX2_init_29 : decode cX2_init 29 = .ok (.return_, 1) := by decide +kernel
theorem dX6_init_0 : decode cX6_init 0 = .ok (.aload_n 0, 1) := by decide +kernel
theorem dX6_init_1 : decode cX6_init 1 = .ok (.invokespecial 3, 3) := by decide +kernel
theorem dX6_init_4 : decode cX6_init 4 = .ok (.aload_n 0, 1) := by decide +kernel
theorem dX6_init_5 : decode cX6_init 5 = .ok (.sipush 1000, 3) := by decide +kernel
theorem dX6_init_8 : decode cX6_init 8 = .ok (.newarray .int, 2) := by decide +kernel
theorem dX6_init_10 : decode cX6_init 10 = .ok (.putfield 9, 3) := by decide +kernel
theorem dX6_init_13 : decode cX6_init 13 = .ok (.aload_n 0, 1) := by decide +kernel
theorem dX6_init_14 : decode cX6_init 14 = .ok (.sipush 1000, 3) := by decide +kernel
theorem dX6_init_17 : decode cX6_init 17 = .ok (.newarray .int, 2) := by decide +kernel
theorem dX6_init_19 : decode cX6_init 19 = .ok (.putfield 15, 3) := by decide +kernel
theorem dX6_init_22 : decode cX6_init 22 = .ok (.aload_n 0, 1) := by decide +kernel
theorem dX6_init_23 : decode cX6_init 23 = .ok (.sipush 1000, 3) := by decide +kernel
theorem dX6_init_26 : decode cX6_init 26 = .ok (.newarray .int, 2) := by decide +kernel
theorem dX6_init_28 : decode cX6_init 28 = .ok (.putfield 18, 3) := by decide +kernel
theorem dX6_init_31 : decode cX6_init 31 = .ok (.return_, 1) := by decide +kernel
theorem dX3_init_0 : decode cX3_init 0 = .ok (.aload_n 0, 1) := by decide +kernel
theorem dX3_init_1 : decode cX3_init 1 = .ok (.invokespecial 3, 3) := by decide +kernel
theorem dX3_init_4 : decode cX3_init 4 = .ok (.aload_n 0, 1) := by decide +kernel
theorem dX3_init_5 : decode cX3_init 5 = .ok (.sipush 200, 3) := by decide +kernel
theorem dX3_init_8 : decode cX3_init 8 = .ok (.newarray .int, 2) := by decide +kernel
theorem dX3_init_10 : decode cX3_init 10 = .ok (.putfield 9, 3) := by decide +kernel
theorem dX3_init_13 : decode cX3_init 13 = .ok (.aload_n 0, 1) := by decide +kernel
theorem dX3_init_14 : decode cX3_init 14 = .ok (.sipush 200, 3) := by decide +kernel
theorem dX3_init_17 : decode cX3_init 17 = .ok (.newarray .int, 2) := by decide +kernel
theorem dX3_init_19 : decode cX3_init 19 = .ok (.putfield 15, 3) := by decide +kernel
theorem dX3_init_22 : decode cX3_init 22 = .ok (.return_, 1) := by decide +kernel
theorem dX0_init_0 : decode cX0_init 0 = .ok (.aload_n 0, 1) := by decide +kernel
theorem dX0_init_1 : decode cX0_init 1 = .ok (.invokespecial 3, 3) := by decide +kernel
theorem dX0_init_4 : decode cX0_init 4 = .ok (.aload_n 0, 1) := by decide +kernel
theorem dX0_init_5 : decode cX0_init 5 = .ok (.bipush 10, 2) := by decide +kernel
theorem dX0_init_7 : decode cX0_init 7 = .ok (.anewarray 9, 3) := by decide +kernel
theorem dX0_init_10 : decode cX0_init 10 = .ok (.putfield 11, 3) := by decide +kernel
theorem dX0_init_13 : decode cX0_init 13 = .ok (.return_, 1) := by decide +kernel
theorem dX7_init_0 : decode cX7_init 0 = .ok (.aload_n 0, 1) := by decide +kernel
theorem dX7_init_1 : decode cX7_init 1 = .ok (.invokespecial 3, 3) := by decide +kernel
theorem dX7_init_4 : decode cX7_init 4 = .ok (.aload_n 0, 1) := by decide +kernel
theorem dX7_init_5 : decode cX7_init 5 = .ok (.sipush 200, 3) := by decide +kernel
theorem dX7_init_8 : decode cX7_init 8 = .ok (.newarray .byte, 2) := by decide +kernel
theorem dX7_init_10 : decode cX7_init 10 = .ok (.putfield 9, 3) := by decide +kernel
theorem dX7_init_13 : decode cX7_init 13 = .ok (.return_, 1) := by decide +kernel
theorem dX8_init_0 : decode cX8_init 0 = .ok (.aload_n 0, 1) := by decide +kernel
theorem dX8_init_1 : decode cX8_init 1 = .ok (.invokespecial 3, 3) := by decide +kernel
theorem dX8_init_4 : decode cX8_init 4 = .ok (.aload_n 0, 1) := by decide +kernel
theorem dX8_init_5 : decode cX8_init 5 = .ok (.iconst 5, 1) := by decide +kernel
theorem dX8_init_6 : decode cX8_init 6 = .ok (.newarray .int, 2) := by decide +kernel
theorem dX8_init_8 : decode cX8_init 8 = .ok (.putfield 9, 3) := by decide +kernel
theorem dX8_init_11 : decode cX8_init 11 = .ok (.aload_n 0, 1) := by decide +kernel
theorem dX8_init_12 : decode cX8_init 12 = .ok (.bipush 120, 2) := by decide +kernel
theorem dX8_init_14 : decode cX8_init 14 = .ok (.newarray .int, 2) := by decide +kernel
theorem dX8_init_16 : decode cX8_init 16 = .ok (.putfield 15, 3) := by decide +kernel
theorem dX8_init_19 : decode cX8_init 19 = .ok (.aload_n 0, 1) := by decide +kernel
theorem dX8_init_20 : decode cX8_init 20 = .ok (.bipush 32, 2) := by decide +kernel
theorem dX8_init_22 : decode cX8_init 22 = .ok (.newarray .int, 2) := by decide +kernel
theorem dX8_init_24 : decode cX8_init 24 = .ok (.putfield 18, 3) := by decide +kernel
theorem dX8_init_27 : decode cX8_init 27 = .ok (.aload_n 0, 1) := by decide +kernel
theorem dX8_init_28 : decode cX8_init 28 = .ok (.bipush 12, 2) := by decide +kernel
theorem dX8_init_30 : decode cX8_init 30 = .ok (.newarray .int, 2) := by decide +kernel
theorem dX8_init_32 : decode cX8_init 32 = .ok (.putfield 21, 3) := by decide +kernel
theorem dX8_init_35 : decode cX8_init 35 = .ok (.aload_n 0, 1) := by decide +kernel
theorem dX8_init_36 : decode cX8_init 36 = .ok (.bipush 12, 2) := by decide +kernel
theorem dX8_init_38 : decode cX8_init 38 = .ok (.newarray .int, 2) := by decide +kernel
theorem dX8_init_40 : decode cX8_init 40 = .ok (.putfield 24, 3) := by decide +kernel
theorem dX8_init_43 : decode cX8_init 43 = .ok (.return_, 1) := by decide +kernel
theorem dX4_init_0 : decode cX4_init 0 = .ok (.aload_n 0, 1) := by decide +kernel
theorem dX4_init_1 : decode cX4_init 1 = .ok (.invokespecial 3, 3) := by decide +kernel
theorem dX4_init_4 : decode cX4_init 4 = .ok (.aload_n 0, 1) := by decide +kernel
theorem dX4_init_5 : decode cX4_init 5 = .ok (.aload_n 1, 1) := by decide +kernel
theorem dX4_init_6 : decode cX4_init 6 = .ok (.putfield 9, 3) := by decide +kernel
theorem dX4_init_9 : decode cX4_init 9 = .ok (.aload_n 0, 1) := by decide +kernel
theorem dX4_init_10 : decode cX4_init 10 = .ok (.aload_n 2, 1) := by decide +kernel
theorem dX4_init_11 : decode cX4_init 11 = .ok (.putfield 15, 3) := by decide +kernel
theorem dX4_init_14 : decode cX4_init 14 = .ok (.return_, 1) := by decide +kernel
theorem dX9_init_0 : decode cX9_init 0 = .ok (.aload_n 0, 1) := by decide +kernel
theorem dX9_init_1 : decode cX9_init 1 = .ok (.invokespecial 1, 3) := by decide +kernel
theorem dX9_init_4 : decode cX9_init 4 = .ok (.aload_n 0, 1) := by decide +kernel
theorem dX9_init_5 : decode cX9_init 5 = .ok (.new 7, 3) := by decide +kernel
theorem dX9_init_8 : decode cX9_init 8 = .ok (.dup, 1) := by decide +kernel
theorem dX9_init_9 : decode cX9_init 9 = .ok (.invokespecial 9, 3) := by decide +kernel
theorem dX9_init_12 : decode cX9_init 12 = .ok (.putfield 10, 3) := by decide +kernel
theorem dX9_init_15 : decode cX9_init 15 = .ok (.aload_n 0, 1) := by decide +kernel
theorem dX9_init_16 : decode cX9_init 16 = .ok (.new 16, 3) := by decide +kernel
theorem dX9_init_19 : decode cX9_init 19 = .ok (.dup, 1) := by decide +kernel
theorem dX9_init_20 : decode cX9_init 20 = .ok (.invokespecial 18, 3) := by decide +kernel
theorem dX9_init_23 : decode cX9_init 23 = .ok (.putfield 19, 3) := by decide +kernel
theorem dX9_init_26 : decode cX9_init 26 = .ok (.aload_n 0, 1) := by decide +kernel
theorem dX9_init_27 : decode cX9_init 27 = .ok (.new 16, 3) := by decide +kernel
theorem dX9_init_30 : decode cX9_init 30 = .ok (.dup, 1) := by decide +kernel
theorem dX9_init_31 : decode cX9_init 31 = .ok (.invokespecial 18, 3) := by decide +kernel
theorem dX9_init_34 : decode cX9_init 34 = .ok (.putfield 23, 3) := by decide +kernel
theorem dX9_init_37 : decode cX9_init 37 = .ok (.aload_n 0, 1) := by decide +kernel
theorem dX9_init_38 : decode cX9_init 38 = .ok (.new 26, 3) := by decide +kernel
theorem dX9_init_41 : decode cX9_init 41 = .ok (.dup, 1) := by decide +kernel
theorem dX9_init_42 : decode cX9_init 42 = .ok (.aload_n 0, 1) := by decide +kernel
theorem dX9_init_43 : decode cX9_init 43 = .ok (.getfield 10, 3) := by decide +kernel
theorem dX9_init_46 : decode cX9_init 46 = .ok (.aload_n 0, 1) := by decide +kernel
theorem dX9_init_47 : decode cX9_init 47 = .ok (.getfield 23, 3) := by decide +kernel
theorem dX9_init_50 : decode cX9_init 50 = .ok (.invokespecial 28, 3) := by decide +kernel
theorem dX9_init_53 : decode cX9_init 53 = .ok (.putfield 31, 3) := by decide +kernel
theorem dX9_init_56 : decode cX9_init 56 = .ok (.aload_n 0, 1) := by decide +kernel
theorem dX9_init_57 : decode cX9_init 57 = .ok (.new 35, 3) := by decide +kernel
theorem dX9_init_60 : decode cX9_init 60 = .ok (.dup, 1) := by decide +kernel
theorem dX9_init_61 : decode cX9_init 61 = .ok (.invokespecial 37, 3) := by decide +kernel
theorem dX9_init_64 : decode cX9_init 64 = .ok (.putfield 38, 3) := by decide +kernel
theorem dX9_init_67 : decode cX9_init 67 = .ok (.aload_n 0, 1) := by decide +kernel
theorem dX9_init_68 : decode cX9_init 68 = .ok (.iconst 2, 1) := by decide +kernel
theorem dX9_init_69 : decode cX9_init 69 = .ok (.anewarray 42, 3) := by decide +kernel
theorem dX9_init_72 : decode cX9_init 72 = .ok (.putfield 44, 3) := by decide +kernel
theorem dX9_init_75 : decode cX9_init 75 = .ok (.aload_n 0, 1) := by decide +kernel
theorem dX9_init_76 : decode cX9_init 76 = .ok (.new 48, 3) := by decide +kernel
theorem dX9_init_79 : decode cX9_init 79 = .ok (.dup, 1) := by decide +kernel
theorem dX9_init_80 : decode cX9_init 80 = .ok (.invokespecial 50, 3) := by decide +kernel
theorem dX9_init_83 : decode cX9_init 83 = .ok (.putfield 51, 3) := by decide +kernel
theorem dX9_init_86 : decode cX9_init 86 = .ok (.aload_n 0, 1) := by decide +kernel
theorem dX9_init_87 : decode cX9_init 87 = .ok (.new 48, 3) := by decide +kernel
theorem dX9_init_90 : decode cX9_init 90 = .ok (.dup, 1) := by decide +kernel
theorem dX9_init_91 : decode cX9_init 91 = .ok (.invokespecial 50, 3) := by decide +kernel
theorem dX9_init_94 : decode cX9_init 94 = .ok (.putfield 55, 3) := by decide +kernel
theorem dX9_init_97 : decode cX9_init 97 = .ok (.aload_n 0, 1) := by decide +kernel
theorem dX9_init_98 : decode cX9_init 98 = .ok (.new 48, 3) := by decide +kernel
theorem dX9_init_101 : decode cX9_init 101 = .ok (.dup, 1) := by decide +kernel
theorem dX9_init_102 : decode cX9_init 102 = .ok (.invokespecial 50, 3) := by decide +kernel
theorem dX9_init_105 : decode cX9_init 105 = .ok (.putfield 58, 3) := by decide +kernel
theorem dX9_init_108 : decode cX9_init 108 = .ok (.aload_n 0, 1) := by decide +kernel
theorem dX9_init_109 : decode cX9_init 109 = .ok (.new 61, 3) := by decide +kernel
theorem dX9_init_112 : decode cX9_init 112 = .ok (.dup, 1) := by decide +kernel
theorem dX9_init_113 : decode cX9_init 113 = .ok (.invokespecial 63, 3) := by decide +kernel
theorem dX9_init_116 : decode cX9_init 116 = .ok (.putfield 64, 3) := by decide +kernel
theorem dX9_init_119 : decode cX9_init 119 = .ok (.aload_n 0, 1) := by decide +kernel
theorem dX9_init_120 : decode cX9_init 120 = .ok (.new 61, 3) := by decide +kernel
theorem dX9_init_123 : decode cX9_init 123 = .ok (.dup, 1) := by decide +kernel
theorem dX9_init_124 : decode cX9_init 124 = .ok (.invokespecial 63, 3) := by decide +kernel
theorem dX9_init_127 : decode cX9_init 127 = .ok (.putfield 68, 3) := by decide +kernel
theorem dX9_init_130 : decode cX9_init 130 = .ok (.aload_n 0, 1) := by decide +kernel
theorem dX9_init_131 : decode cX9_init 131 = .ok (.new 71, 3) := by decide +kernel
theorem dX9_init_134 : decode cX9_init 134 = .ok (.dup, 1) := by decide +kernel
theorem dX9_init_135 : decode cX9_init 135 = .ok (.invokespecial 73, 3) := by decide +kernel
theorem dX9_init_138 : decode cX9_init 138 = .ok (.putfield 74, 3) := by decide +kernel
theorem dX9_init_141 : decode cX9_init 141 = .ok (.aload_n 0, 1) := by decide +kernel
theorem dX9_init_142 : decode cX9_init 142 = .ok (.new 78, 3) := by decide +kernel
theorem dX9_init_145 : decode cX9_init 145 = .ok (.dup, 1) := by decide +kernel
theorem dX9_init_146 : decode cX9_init 146 = .ok (.invokespecial 80, 3) := by decide +kernel
theorem dX9_init_149 : decode cX9_init 149 = .ok (.putfield 81, 3) := by decide +kernel
theorem dX9_init_152 : decode cX9_init 152 = .ok (.aload_n 0, 1) := by decide +kernel
theorem dX9_init_153 : decode cX9_init 153 = .ok (.new 78, 3) := by decide +kernel
theorem dX9_init_156 : decode cX9_init 156 = .ok (.dup, 1) := by decide +kernel
theorem dX9_init_157 : decode cX9_init 157 = .ok (.invokespecial 80, 3) := by decide +kernel
theorem dX9_init_160 : decode cX9_init 160 = .ok (.putfield 85, 3) := by decide +kernel
theorem dX9_init_163 : decode cX9_init 163 = .ok (.return_, 1) := by decide +kernel
def w_X5_init : List Cond := .code yX5_init cX5_init 1 none :: ([.methodLink RX5 3 objectInit, .instanceMethod objectInit, .code objectInit ⟨#[0xb1]⟩ 1 none])
set_option maxHeartbeats 4000000 in
set_option maxRecDepth 100000 in
theorem c_X5_init (l : Launch) (D : va_G) (h0 : Nat) (sz : Nat) : Met l yX5_init w_X5_init ({ frames := 1, cells := 0, slots := 0, locals := 12 }) (va_Pc [.ref h0] (fun U => U.heap.size = sz ∧ va_P D vwCl [(h0, .inr (5, [.int 0, .int 0, .int 0]))] U.heap ∧ va_K D vwCl [] U ∧ va_D (fun _ => True) [(h0, .inr (5, [.int 0, .int 0, .int 0]))])) (va_Qv (fun (_ : Unit) => True) (fun (_ : Unit) t => va_P D vwCl [] t.heap ∧ va_K D vwCl [] t ∧ va_D (va_A [(h0, .inr (5, [.int 0, .int 0, .int 0]))] sz) []) (va_A [(h0, .inr (5, [.int 0, .int 0, .int 0]))] sz)) 0 0 (va_A [(h0, .inr (5, [.int 0, .int 0, .int 0]))] sz) := by
  refine Met.ofW (cc := cX5_init) (maxL := 1) (ret := none) (by decide) rfl ?_
  intro p e s m args below meth c s₁ B hml hv
  obtain ⟨rfl, hsz, hP, hK, hD0⟩ := hv
  have hx := B.exec
  have hb := B.bytes
  have hr := B.returns
  have hts := atoms_spec (ws := w_X5_init) B.pre
  have hown : s.vm.findClass RX5 = some m.cls := findClass_of_methodNamed B.named
  have hlocks := B.notSynchronized
  have hin : meth.name = "<init>" := (name_of_methodNamed B.named B.method).1
  subst hsz
  have hD := hD0.self (sz := s.heap.size)
  generalize hAe : va_A [(h0, .inr (5, [.int 0, .int 0, .int 0]))] s.heap.size = A at hD ⊢
  have hA : ∀ q : Nat, s.heap.size ≤ q → A q := fun q h => by rw [← hAe]; exact Or.inr h
  have hS : va_S A s.heap s.heap [] := va_S.rf
  have hP : va_P D vwCl [(h0, .inr (5, [.int 0, .int 0, .int 0]))] s.heap := hP
  have hl := lv_entry ([.ref h0]) (n := 1) (Nat.le_of_ble_eq_true rfl)
  rw [lg_entry_eq]
  generalize (lg_sl ([.ref h0]) ++ List.replicate (1 - (lg_sl ([.ref h0])).length) Slot.unset).toArray = ls at hl ⊢
  have hl : lv_has ls 1 [(0, .ref h0)] := hl
  obtain ⟨H, hHe⟩ : ∃ H : Heap, H = s.heap := ⟨_, rfl⟩
  rw [← hHe] at hP
  have hS : va_S A s.heap H [] := by rw [hHe]; exact hS
  refine pw_heap hHe ?_
  refine lv_aload_n hx hb dX5_init_0 rfl (lv_at hl 0 rfl) ?_
  refine W.objInit hx hb hown (hts (.methodLink RX5 3 objectInit) (List.mem_of_getElem? (i := 1) rfl)) (hts (.instanceMethod objectInit) (List.mem_of_getElem? (i := 2) rfl)) (hts (.code objectInit ⟨#[0xb1]⟩ 1 none) (List.mem_of_getElem? (i := 3) rfl)) rfl (by rw [hml]; exact hl.1) rfl dX5_init_1 (Nat.le_of_ble_eq_true rfl) (Nat.le_of_ble_eq_true rfl) ?_
  refine W.eq (g2 := F0 m 4 ls []) rfl ?_
  have hP9 := hP.sub (ws' := []) [] rfl
  have hD9 := hD.sub (ws' := []) [] (by decide) rfl
  have hK9 := hK.sub (tys' := []) [] rfl
  refine W.widen (k := 0) (n := 0) (Nat.le_of_ble_eq_true rfl) (Nat.le_of_ble_eq_true rfl) ?_
  exact W.vret hx hb hr (fun t ht hW => ⟨⟨(), rfl, trivial, by rw [ht]; exact hP9, va_K.moved hW.alike hK9, hD9⟩, hS.F ht⟩) hS.2.2 dX5_init_4
def w_X2_init : List Cond := .code yX2_init cX2_init 1 none :: ([.methodLink RX2 3 objectInit, .instanceMethod objectInit, .code objectInit ⟨#[0xb1]⟩ 1 none, .arrayClass .int, .fieldLink RX2 9 "LineCites$NumberSet" "marks" "[I", .classLink RX2 15 RX5, .instantiable RX5 3, .initialized RX5, .instanceMethod yX5_init, .code yX5_init cX5_init 1 none, .methodLink RX5 3 objectInit, .fieldLink RX2 18 "LineCites$NumberSet" "span" "LLineCites$Span;", .fieldLink RX2 22 "LineCites$NumberSet" "round" "I"] ++ wsX20 ++ wsX50)
set_option maxRecDepth 20000 in
theorem g_X2_init_X5_init : GoodIn w_X2_init w_X5_init := goodIn_r _ [10, 11, 2, 3] rfl (by decide +kernel)
set_option maxHeartbeats 4000000 in
set_option maxRecDepth 100000 in
theorem c_X2_init (l : Launch) (D : va_G) (h0 : Nat) (sz : Nat) : Met l yX2_init w_X2_init ({ frames := 2, cells := 2, slots := 1003, locals := 32 }) (va_Pc [.ref h0] (fun U => U.heap.size = sz ∧ va_P D vwCl [(h0, .inr (2, [.null, .null, .int 0]))] U.heap ∧ va_K D vwCl [] U ∧ va_D (fun _ => True) [(h0, .inr (2, [.null, .null, .int 0]))] ∧ va_Nw (.methodLinkNest RX2 17 yX5_init "LineCites") U)) (va_Qv (fun (_ : Unit) => True) (fun (_ : Unit) t => va_P D vwCl [] t.heap ∧ va_K D vwCl [] t ∧ va_D (va_A [(h0, .inr (2, [.null, .null, .int 0]))] sz) []) (va_A [(h0, .inr (2, [.null, .null, .int 0]))] sz)) 2 1003 (va_A [(h0, .inr (2, [.null, .null, .int 0]))] sz) := by
  refine Met.ofW (cc := cX2_init) (maxL := 1) (ret := none) (by decide) rfl ?_
  intro p e s m args below meth c s₁ B hml hv
  obtain ⟨rfl, hsz, hP, hK, hD0, hN2_17⟩ := hv
  have hx := B.exec
  have hb := B.bytes
  have hr := B.returns
  have hts := atoms_spec (ws := w_X2_init) B.pre
  have hown : s.vm.findClass RX2 = some m.cls := findClass_of_methodNamed B.named
  have hlocks := B.notSynchronized
  have hin : meth.name = "<init>" := (name_of_methodNamed B.named B.method).1
  subst hsz
  have hD := hD0.self (sz := s.heap.size)
  generalize hAe : va_A [(h0, .inr (2, [.null, .null, .int 0]))] s.heap.size = A at hD ⊢
  have hA : ∀ q : Nat, s.heap.size ≤ q → A q := fun q h => by rw [← hAe]; exact Or.inr h
  have hS : va_S A s.heap s.heap [] := va_S.rf
  have hP : va_P D vwCl [(h0, .inr (2, [.null, .null, .int 0]))] s.heap := hP
  have hl := lv_entry ([.ref h0]) (n := 1) (Nat.le_of_ble_eq_true rfl)
  rw [lg_entry_eq]
  generalize (lg_sl ([.ref h0]) ++ List.replicate (1 - (lg_sl ([.ref h0])).length) Slot.unset).toArray = ls at hl ⊢
  have hl : lv_has ls 1 [(0, .ref h0)] := hl
  obtain ⟨H, hHe⟩ : ∃ H : Heap, H = s.heap := ⟨_, rfl⟩
  rw [← hHe] at hP
  have hS : va_S A s.heap H [] := by rw [hHe]; exact hS
  refine pw_heap hHe ?_
  refine lv_aload_n hx hb dX2_init_0 rfl (lv_at hl 0 rfl) ?_
  refine W.objInit hx hb hown (hts (.methodLink RX2 3 objectInit) (List.mem_of_getElem? (i := 1) rfl)) (hts (.instanceMethod objectInit) (List.mem_of_getElem? (i := 2) rfl)) (hts (.code objectInit ⟨#[0xb1]⟩ 1 none) (List.mem_of_getElem? (i := 3) rfl)) rfl (by rw [hml]; exact hl.1) rfl dX2_init_1 (Nat.le_of_ble_eq_true rfl) (Nat.le_of_ble_eq_true rfl) ?_
  refine W.eq (g2 := F0 m 4 ls []) rfl ?_
  refine lv_aload_n hx hb dX2_init_4 rfl (lv_at hl 0 rfl) ?_
  refine lv_sipush (v := 1000) hx hb dX2_init_5 (by decide) ?_
  refine va_newa (atype := .int) (ty := .int) (a0 := (1000, .inl (fun _ => 0))) (N' := 1000) hx hb (hts (.arrayClass .int) (List.mem_of_getElem? (i := 4) rfl)) rfl hK hP hD hS hA (fun _ => rfl) (by decide) (by decide) (Nat.le_of_ble_eq_true rfl) (Nat.le_of_ble_eq_true rfl) (Nat.le_of_ble_eq_true rfl) dX2_init_8 (fun q1 k2 H hK hP hD hS => ?_)
  have hP : va_P D vwCl [(h0, .inr (2, [.null, .null, .int 0])), (q1, .inl (k2, 1000, .inl (fun _ => 0)))] H := hP
  have hD : va_D A [(h0, .inr (2, [.null, .null, .int 0])), (q1, .inl (k2, 1000, .inl (fun _ => 0)))] := hD
  have hK : va_K D vwCl [(k2, .int)] s := hK
  refine W.widen (k := 1) (n := 1000) (Nat.le_of_ble_eq_true rfl) (Nat.le_of_ble_eq_true rfl) ?_
  refine va_putF (D := D) (ci := 2) (v := .ref q1) (ty := .array .int) (C := RX2) (T := TX2) (N := 3) hx hb hts (fun _ h => List.mem_cons_of_mem _ (List.mem_append_left _ (List.mem_append_right _ h))) tyX2 tyX2_ok nmX2 hown hK hP hD hS 0 rfl rfl 0 (by decide) (hts (.fieldLink RX2 9 "LineCites$NumberSet" "marks" "[I") (List.mem_of_getElem? (i := 5) rfl)) (fun _ h9 => h9) rfl hin rfl (by decide +kernel) rfl rfl (Nat.le_of_ble_eq_true rfl) dX2_init_10 (fun H locs hP hD hS => ?_)
  have hP : va_P D vwCl [(h0, .inr (2, [.ref q1, .null, .int 0])), (q1, .inl (k2, 1000, .inl (fun _ => 0)))] H := hP
  have hD : va_D A [(h0, .inr (2, [.ref q1, .null, .int 0])), (q1, .inl (k2, 1000, .inl (fun _ => 0)))] := hD
  have hK : va_K D vwCl [(k2, .int)] s := hK
  refine lv_aload_n hx hb dX2_init_13 rfl (lv_at hl 0 rfl) ?_
  refine va_new (ci := 5) (fs := [.int 0, .int 0, .int 0]) (C := RX5) (T := TX5) (N := 3) hx hb hts (fun _ h => List.mem_cons_of_mem _ (List.mem_append_right _ h)) tyX5 tyX5_ok hown (hts (.classLink RX2 15 RX5) (List.mem_of_getElem? (i := 6) rfl)) (hts (.instantiable RX5 3) (List.mem_of_getElem? (i := 7) rfl)) (hts (.initialized RX5) (List.mem_of_getElem? (i := 8) rfl)) hK hP hD hS hA rfl (fun j hj => by rcases (show j = 0 ∨ j = 1 ∨ j = 2 by omega) with rfl | rfl | rfl <;> rfl) (Nat.le_of_ble_eq_true rfl) (Nat.le_of_ble_eq_true rfl) dX2_init_14 (fun q3 H hP hD hS => ?_)
  have hP : va_P D vwCl [(h0, .inr (2, [.ref q1, .null, .int 0])), (q1, .inl (k2, 1000, .inl (fun _ => 0))), (q3, .inr (5, [.int 0, .int 0, .int 0]))] H := hP
  have hD : va_D A [(h0, .inr (2, [.ref q1, .null, .int 0])), (q1, .inl (k2, 1000, .inl (fun _ => 0))), (q3, .inr (5, [.int 0, .int 0, .int 0]))] := hD
  have hK : va_K D vwCl [(k2, .int)] s := hK
  refine W.widen (k := 2) (n := 1003) (Nat.le_of_ble_eq_true rfl) (Nat.le_of_ble_eq_true rfl) ?_
  refine lv_dup hx hb dX2_init_17 rfl ?_
  have hPc := hP.sub (ws' := [(q3, .inr (5, [.int 0, .int 0, .int 0]))]) [2] rfl
  have hKc := hK.sub (tys' := []) [] rfl
  have hDc := hD.sub (ws' := [(q3, .inr (5, [.int 0, .int 0, .int 0]))]) [2] (by decide) rfl
  have hFc := va_free (wc := [(q3, .inr (5, [.int 0, .int 0, .int 0]))]) hD hS hA [2] rfl
  refine va_callv (va_runIN (As := []) (rest := [.ref q3, .ref h0]) ⟨hx, hb, hml, hown, hts⟩ (c_X5_init l D q3 H.size) ⟨va_cnB 0 hts g_X2_init_X5_init rfl rfl rfl hN2_17 (hts (.initialized RX5) (List.mem_of_getElem? (i := 8) rfl)) (by decide +kernel) ⟨Nat.le_of_ble_eq_true rfl, Nat.le_of_ble_eq_true rfl⟩, rfl, (hts (.instanceMethod yX5_init) (List.mem_of_getElem? (i := 9) rfl))⟩ ⟨fun a U g mk q => by obtain ⟨q0, q1, qP, qK, qD⟩ := q; exact ⟨q0, q1, qP, va_K.moved (u := U) (U := U.calling g mk a) (Vm.Alike.refl U.vm) qK, qD⟩, fun U hU hW => ⟨rfl, by rw [hU], by rw [hU]; exact hPc, va_K.moved hW.alike hKc, hDc.weaken (fun _ _ _ _ => trivial)⟩⟩ rfl rfl hl.1 rfl (lv_room (Nat.le_of_ble_eq_true rfl)) dX2_init_18 ⟨Nat.le_of_ble_eq_true rfl, Nat.le_of_ble_eq_true rfl⟩) hS (fun q _ h => hFc q h) hFc (fun u t H1 locs ht hvm hw hB hz1 hk1 hS => ?_)
  obtain ⟨hP1, hK1, hD1⟩ := hB
  rw [ht] at hP1
  have hK1 := va_K.moved hvm.symm hK1
  obtain ⟨hP, hD⟩ := va_join (wr := [(h0, .inr (2, [.ref q1, .null, .int 0])), (q1, .inl (k2, 1000, .inl (fun _ => 0)))]) (w1 := []) hP hD [2] [0, 1] rfl rfl (by decide) (by decide) hk1 hFc hP1 hD1
  have hK := (hK.sub (tys' := [(k2, .int)]) [0] rfl).app hK1
  generalize H1 = H at hP hS ⊢
  have hP : va_P D vwCl [(h0, .inr (2, [.ref q1, .null, .int 0])), (q1, .inl (k2, 1000, .inl (fun _ => 0)))] H := hP
  have hD : va_D A [(h0, .inr (2, [.ref q1, .null, .int 0])), (q1, .inl (k2, 1000, .inl (fun _ => 0)))] := hD
  have hK : va_K D vwCl [(k2, .int)] s := hK
  refine W.widen (k := 2) (n := 1003) (Nat.le_of_ble_eq_true rfl) (Nat.le_of_ble_eq_true rfl) ?_
  refine va_putF (D := D) (ci := 2) (v := .ref q3) (ty := .object "LineCites$Span") (C := RX2) (T := TX2) (N := 3) hx hb hts (fun _ h => List.mem_cons_of_mem _ (List.mem_append_left _ (List.mem_append_right _ h))) tyX2 tyX2_ok nmX2 hown hK hP hD hS 0 rfl rfl 1 (by decide) (hts (.fieldLink RX2 18 "LineCites$NumberSet" "span" "LLineCites$Span;") (List.mem_of_getElem? (i := 12) rfl)) (fun _ h9 => h9) rfl hin rfl (by decide +kernel) rfl rfl (Nat.le_of_ble_eq_true rfl) dX2_init_21 (fun H locs hP hD hS => ?_)
  have hP : va_P D vwCl [(h0, .inr (2, [.ref q1, .ref q3, .int 0])), (q1, .inl (k2, 1000, .inl (fun _ => 0)))] H := hP
  have hD : va_D A [(h0, .inr (2, [.ref q1, .ref q3, .int 0])), (q1, .inl (k2, 1000, .inl (fun _ => 0)))] := hD
  have hK : va_K D vwCl [(k2, .int)] s := hK
  refine lv_aload_n hx hb dX2_init_24 rfl (lv_at hl 0 rfl) ?_
  refine lv_iconst (v := 1) hx hb dX2_init_25 (by decide) ?_
  refine va_put (D := D) (ci := 2) (v := .int 1) (ty := .int) (C := RX2) (T := TX2) (N := 3) hx hb hts (fun _ h => List.mem_cons_of_mem _ (List.mem_append_left _ (List.mem_append_right _ h))) tyX2 tyX2_ok nmX2 hown hK hP hD hS 0 rfl rfl 2 (by decide) (hts (.fieldLink RX2 22 "LineCites$NumberSet" "round" "I") (List.mem_of_getElem? (i := 13) rfl)) (fun _ h9 => h9) rfl (by decide +kernel) rfl rfl (Nat.le_of_ble_eq_true rfl) dX2_init_26 (fun H locs hP hD hS => ?_)
  have hP : va_P D vwCl [(h0, .inr (2, [.ref q1, .ref q3, .int 1])), (q1, .inl (k2, 1000, .inl (fun _ => 0)))] H := hP
  have hD : va_D A [(h0, .inr (2, [.ref q1, .ref q3, .int 1])), (q1, .inl (k2, 1000, .inl (fun _ => 0)))] := hD
  have hK : va_K D vwCl [(k2, .int)] s := hK
  have hP9 := hP.sub (ws' := []) [] rfl
  have hD9 := hD.sub (ws' := []) [] (by decide) rfl
  have hK9 := hK.sub (tys' := []) [] rfl
  refine W.widen (k := 2) (n := 1003) (Nat.le_of_ble_eq_true rfl) (Nat.le_of_ble_eq_true rfl) ?_
  exact W.vret hx hb hr (fun t ht hW => ⟨⟨(), rfl, trivial, by rw [ht]; exact hP9, va_K.moved hW.alike hK9, hD9⟩, hS.F ht⟩) hS.2.2 dX2_init_29
def w_X6_init : List Cond := .code yX6_init cX6_init 1 none :: ([.methodLink RX6 3 objectInit, .instanceMethod objectInit, .code objectInit ⟨#[0xb1]⟩ 1 none, .arrayClass .int, .fieldLink RX6 9 "LineCites$Spans" "sizes" "[I", .fieldLink RX6 15 "LineCites$Spans" "leasts" "[I", .fieldLink RX6 18 "LineCites$Spans" "greatests" "[I"] ++ wsX60)
set_option maxHeartbeats 4000000 in
set_option maxRecDepth 100000 in
theorem c_X6_init (l : Launch) (D : va_G) (h0 : Nat) (sz : Nat) : Met l yX6_init w_X6_init ({ frames := 1, cells := 3, slots := 3000, locals := 12 }) (va_Pc [.ref h0] (fun U => U.heap.size = sz ∧ va_P D vwCl [(h0, .inr (6, [.null, .null, .null, .int 0, .int 0, .int 0, .int 0, .int 0]))] U.heap ∧ va_K D vwCl [] U ∧ va_D (fun _ => True) [(h0, .inr (6, [.null, .null, .null, .int 0, .int 0, .int 0, .int 0, .int 0]))])) (va_Qv (fun (_ : Unit) => True) (fun (_ : Unit) t => va_P D vwCl [] t.heap ∧ va_K D vwCl [] t ∧ va_D (va_A [(h0, .inr (6, [.null, .null, .null, .int 0, .int 0, .int 0, .int 0, .int 0]))] sz) []) (va_A [(h0, .inr (6, [.null, .null, .null, .int 0, .int 0, .int 0, .int 0, .int 0]))] sz)) 3 3000 (va_A [(h0, .inr (6, [.null, .null, .null, .int 0, .int 0, .int 0, .int 0, .int 0]))] sz) := by
  refine Met.ofW (cc := cX6_init) (maxL := 1) (ret := none) (by decide) rfl ?_
  intro p e s m args below meth c s₁ B hml hv
  obtain ⟨rfl, hsz, hP, hK, hD0⟩ := hv
  have hx := B.exec
  have hb := B.bytes
  have hr := B.returns
  have hts := atoms_spec (ws := w_X6_init) B.pre
  have hown : s.vm.findClass RX6 = some m.cls := findClass_of_methodNamed B.named
  have hlocks := B.notSynchronized
  have hin : meth.name = "<init>" := (name_of_methodNamed B.named B.method).1
  subst hsz
  have hD := hD0.self (sz := s.heap.size)
  generalize hAe : va_A [(h0, .inr (6, [.null, .null, .null, .int 0, .int 0, .int 0, .int 0, .int 0]))] s.heap.size = A at hD ⊢
  have hA : ∀ q : Nat, s.heap.size ≤ q → A q := fun q h => by rw [← hAe]; exact Or.inr h
  have hS : va_S A s.heap s.heap [] := va_S.rf
  have hP : va_P D vwCl [(h0, .inr (6, [.null, .null, .null, .int 0, .int 0, .int 0, .int 0, .int 0]))] s.heap := hP
  have hl := lv_entry ([.ref h0]) (n := 1) (Nat.le_of_ble_eq_true rfl)
  rw [lg_entry_eq]
  generalize (lg_sl ([.ref h0]) ++ List.replicate (1 - (lg_sl ([.ref h0])).length) Slot.unset).toArray = ls at hl ⊢
  have hl : lv_has ls 1 [(0, .ref h0)] := hl
  obtain ⟨H, hHe⟩ : ∃ H : Heap, H = s.heap := ⟨_, rfl⟩
  rw [← hHe] at hP
  have hS : va_S A s.heap H [] := by rw [hHe]; exact hS
  refine pw_heap hHe ?_
  refine lv_aload_n hx hb dX6_init_0 rfl (lv_at hl 0 rfl) ?_
  refine W.objInit hx hb hown (hts (.methodLink RX6 3 objectInit) (List.mem_of_getElem? (i := 1) rfl)) (hts (.instanceMethod objectInit) (List.mem_of_getElem? (i := 2) rfl)) (hts (.code objectInit ⟨#[0xb1]⟩ 1 none) (List.mem_of_getElem? (i := 3) rfl)) rfl (by rw [hml]; exact hl.1) rfl dX6_init_1 (Nat.le_of_ble_eq_true rfl) (Nat.le_of_ble_eq_true rfl) ?_
  refine W.eq (g2 := F0 m 4 ls []) rfl ?_
  refine lv_aload_n hx hb dX6_init_4 rfl (lv_at hl 0 rfl) ?_
  refine lv_sipush (v := 1000) hx hb dX6_init_5 (by decide) ?_
  refine va_newa (atype := .int) (ty := .int) (a0 := (1000, .inl (fun _ => 0))) (N' := 1000) hx hb (hts (.arrayClass .int) (List.mem_of_getElem? (i := 4) rfl)) rfl hK hP hD hS hA (fun _ => rfl) (by decide) (by decide) (Nat.le_of_ble_eq_true rfl) (Nat.le_of_ble_eq_true rfl) (Nat.le_of_ble_eq_true rfl) dX6_init_8 (fun q1 k2 H hK hP hD hS => ?_)
  have hP : va_P D vwCl [(h0, .inr (6, [.null, .null, .null, .int 0, .int 0, .int 0, .int 0, .int 0])), (q1, .inl (k2, 1000, .inl (fun _ => 0)))] H := hP
  have hD : va_D A [(h0, .inr (6, [.null, .null, .null, .int 0, .int 0, .int 0, .int 0, .int 0])), (q1, .inl (k2, 1000, .inl (fun _ => 0)))] := hD
  have hK : va_K D vwCl [(k2, .int)] s := hK
  refine W.widen (k := 1) (n := 1000) (Nat.le_of_ble_eq_true rfl) (Nat.le_of_ble_eq_true rfl) ?_
  refine va_putF (D := D) (ci := 6) (v := .ref q1) (ty := .array .int) (C := RX6) (T := TX6) (N := 8) hx hb hts (fun _ h => List.mem_cons_of_mem _ (List.mem_append_right _ h)) tyX6 tyX6_ok nmX6 hown hK hP hD hS 0 rfl rfl 0 (by decide) (hts (.fieldLink RX6 9 "LineCites$Spans" "sizes" "[I") (List.mem_of_getElem? (i := 5) rfl)) (fun _ h9 => h9) rfl hin rfl (by decide +kernel) rfl rfl (Nat.le_of_ble_eq_true rfl) dX6_init_10 (fun H locs hP hD hS => ?_)
  have hP : va_P D vwCl [(h0, .inr (6, [.ref q1, .null, .null, .int 0, .int 0, .int 0, .int 0, .int 0])), (q1, .inl (k2, 1000, .inl (fun _ => 0)))] H := hP
  have hD : va_D A [(h0, .inr (6, [.ref q1, .null, .null, .int 0, .int 0, .int 0, .int 0, .int 0])), (q1, .inl (k2, 1000, .inl (fun _ => 0)))] := hD
  have hK : va_K D vwCl [(k2, .int)] s := hK
  refine lv_aload_n hx hb dX6_init_13 rfl (lv_at hl 0 rfl) ?_
  refine lv_sipush (v := 1000) hx hb dX6_init_14 (by decide) ?_
  refine va_newa (atype := .int) (ty := .int) (a0 := (1000, .inl (fun _ => 0))) (N' := 1000) hx hb (hts (.arrayClass .int) (List.mem_of_getElem? (i := 4) rfl)) rfl hK hP hD hS hA (fun _ => rfl) (by decide) (by decide) (Nat.le_of_ble_eq_true rfl) (Nat.le_of_ble_eq_true rfl) (Nat.le_of_ble_eq_true rfl) dX6_init_17 (fun q3 k4 H hK hP hD hS => ?_)
  have hP : va_P D vwCl [(h0, .inr (6, [.ref q1, .null, .null, .int 0, .int 0, .int 0, .int 0, .int 0])), (q1, .inl (k2, 1000, .inl (fun _ => 0))), (q3, .inl (k4, 1000, .inl (fun _ => 0)))] H := hP
  have hD : va_D A [(h0, .inr (6, [.ref q1, .null, .null, .int 0, .int 0, .int 0, .int 0, .int 0])), (q1, .inl (k2, 1000, .inl (fun _ => 0))), (q3, .inl (k4, 1000, .inl (fun _ => 0)))] := hD
  have hK : va_K D vwCl [(k2, .int), (k4, .int)] s := hK
  refine W.widen (k := 2) (n := 2000) (Nat.le_of_ble_eq_true rfl) (Nat.le_of_ble_eq_true rfl) ?_
  refine va_putF (D := D) (ci := 6) (v := .ref q3) (ty := .array .int) (C := RX6) (T := TX6) (N := 8) hx hb hts (fun _ h => List.mem_cons_of_mem _ (List.mem_append_right _ h)) tyX6 tyX6_ok nmX6 hown hK hP hD hS 0 rfl rfl 1 (by decide) (hts (.fieldLink RX6 15 "LineCites$Spans" "leasts" "[I") (List.mem_of_getElem? (i := 6) rfl)) (fun _ h9 => h9) rfl hin rfl (by decide +kernel) rfl rfl (Nat.le_of_ble_eq_true rfl) dX6_init_19 (fun H locs hP hD hS => ?_)
  have hP : va_P D vwCl [(h0, .inr (6, [.ref q1, .ref q3, .null, .int 0, .int 0, .int 0, .int 0, .int 0])), (q1, .inl (k2, 1000, .inl (fun _ => 0))), (q3, .inl (k4, 1000, .inl (fun _ => 0)))] H := hP
  have hD : va_D A [(h0, .inr (6, [.ref q1, .ref q3, .null, .int 0, .int 0, .int 0, .int 0, .int 0])), (q1, .inl (k2, 1000, .inl (fun _ => 0))), (q3, .inl (k4, 1000, .inl (fun _ => 0)))] := hD
  have hK : va_K D vwCl [(k2, .int), (k4, .int)] s := hK
  refine lv_aload_n hx hb dX6_init_22 rfl (lv_at hl 0 rfl) ?_
  refine lv_sipush (v := 1000) hx hb dX6_init_23 (by decide) ?_
  refine va_newa (atype := .int) (ty := .int) (a0 := (1000, .inl (fun _ => 0))) (N' := 1000) hx hb (hts (.arrayClass .int) (List.mem_of_getElem? (i := 4) rfl)) rfl hK hP hD hS hA (fun _ => rfl) (by decide) (by decide) (Nat.le_of_ble_eq_true rfl) (Nat.le_of_ble_eq_true rfl) (Nat.le_of_ble_eq_true rfl) dX6_init_26 (fun q5 k6 H hK hP hD hS => ?_)
  have hP : va_P D vwCl [(h0, .inr (6, [.ref q1, .ref q3, .null, .int 0, .int 0, .int 0, .int 0, .int 0])), (q1, .inl (k2, 1000, .inl (fun _ => 0))), (q3, .inl (k4, 1000, .inl (fun _ => 0))), (q5, .inl (k6, 1000, .inl (fun _ => 0)))] H := hP
  have hD : va_D A [(h0, .inr (6, [.ref q1, .ref q3, .null, .int 0, .int 0, .int 0, .int 0, .int 0])), (q1, .inl (k2, 1000, .inl (fun _ => 0))), (q3, .inl (k4, 1000, .inl (fun _ => 0))), (q5, .inl (k6, 1000, .inl (fun _ => 0)))] := hD
  have hK : va_K D vwCl [(k2, .int), (k4, .int), (k6, .int)] s := hK
  refine W.widen (k := 3) (n := 3000) (Nat.le_of_ble_eq_true rfl) (Nat.le_of_ble_eq_true rfl) ?_
  refine va_putF (D := D) (ci := 6) (v := .ref q5) (ty := .array .int) (C := RX6) (T := TX6) (N := 8) hx hb hts (fun _ h => List.mem_cons_of_mem _ (List.mem_append_right _ h)) tyX6 tyX6_ok nmX6 hown hK hP hD hS 0 rfl rfl 2 (by decide) (hts (.fieldLink RX6 18 "LineCites$Spans" "greatests" "[I") (List.mem_of_getElem? (i := 7) rfl)) (fun _ h9 => h9) rfl hin rfl (by decide +kernel) rfl rfl (Nat.le_of_ble_eq_true rfl) dX6_init_28 (fun H locs hP hD hS => ?_)
  have hP : va_P D vwCl [(h0, .inr (6, [.ref q1, .ref q3, .ref q5, .int 0, .int 0, .int 0, .int 0, .int 0])), (q1, .inl (k2, 1000, .inl (fun _ => 0))), (q3, .inl (k4, 1000, .inl (fun _ => 0))), (q5, .inl (k6, 1000, .inl (fun _ => 0)))] H := hP
  have hD : va_D A [(h0, .inr (6, [.ref q1, .ref q3, .ref q5, .int 0, .int 0, .int 0, .int 0, .int 0])), (q1, .inl (k2, 1000, .inl (fun _ => 0))), (q3, .inl (k4, 1000, .inl (fun _ => 0))), (q5, .inl (k6, 1000, .inl (fun _ => 0)))] := hD
  have hK : va_K D vwCl [(k2, .int), (k4, .int), (k6, .int)] s := hK
  have hP9 := hP.sub (ws' := []) [] rfl
  have hD9 := hD.sub (ws' := []) [] (by decide) rfl
  have hK9 := hK.sub (tys' := []) [] rfl
  refine W.widen (k := 3) (n := 3000) (Nat.le_of_ble_eq_true rfl) (Nat.le_of_ble_eq_true rfl) ?_
  exact W.vret hx hb hr (fun t ht hW => ⟨⟨(), rfl, trivial, by rw [ht]; exact hP9, va_K.moved hW.alike hK9, hD9⟩, hS.F ht⟩) hS.2.2 dX6_init_31
def w_X3_init : List Cond := .code yX3_init cX3_init 1 none :: ([.methodLink RX3 3 objectInit, .instanceMethod objectInit, .code objectInit ⟨#[0xb1]⟩ 1 none, .arrayClass .int, .fieldLink RX3 9 "LineCites$Numbering" "lows" "[I", .fieldLink RX3 15 "LineCites$Numbering" "highs" "[I"] ++ wsX30)
set_option maxHeartbeats 4000000 in
set_option maxRecDepth 100000 in
theorem c_X3_init (l : Launch) (D : va_G) (h0 : Nat) (sz : Nat) : Met l yX3_init w_X3_init ({ frames := 1, cells := 2, slots := 400, locals := 12 }) (va_Pc [.ref h0] (fun U => U.heap.size = sz ∧ va_P D vwCl [(h0, .inr (3, [.null, .null, .int 0]))] U.heap ∧ va_K D vwCl [] U ∧ va_D (fun _ => True) [(h0, .inr (3, [.null, .null, .int 0]))])) (va_Qv (fun (_ : Unit) => True) (fun (_ : Unit) t => va_P D vwCl [] t.heap ∧ va_K D vwCl [] t ∧ va_D (va_A [(h0, .inr (3, [.null, .null, .int 0]))] sz) []) (va_A [(h0, .inr (3, [.null, .null, .int 0]))] sz)) 2 400 (va_A [(h0, .inr (3, [.null, .null, .int 0]))] sz) := by
  refine Met.ofW (cc := cX3_init) (maxL := 1) (ret := none) (by decide) rfl ?_
  intro p e s m args below meth c s₁ B hml hv
  obtain ⟨rfl, hsz, hP, hK, hD0⟩ := hv
  have hx := B.exec
  have hb := B.bytes
  have hr := B.returns
  have hts := atoms_spec (ws := w_X3_init) B.pre
  have hown : s.vm.findClass RX3 = some m.cls := findClass_of_methodNamed B.named
  have hlocks := B.notSynchronized
  have hin : meth.name = "<init>" := (name_of_methodNamed B.named B.method).1
  subst hsz
  have hD := hD0.self (sz := s.heap.size)
  generalize hAe : va_A [(h0, .inr (3, [.null, .null, .int 0]))] s.heap.size = A at hD ⊢
  have hA : ∀ q : Nat, s.heap.size ≤ q → A q := fun q h => by rw [← hAe]; exact Or.inr h
  have hS : va_S A s.heap s.heap [] := va_S.rf
  have hP : va_P D vwCl [(h0, .inr (3, [.null, .null, .int 0]))] s.heap := hP
  have hl := lv_entry ([.ref h0]) (n := 1) (Nat.le_of_ble_eq_true rfl)
  rw [lg_entry_eq]
  generalize (lg_sl ([.ref h0]) ++ List.replicate (1 - (lg_sl ([.ref h0])).length) Slot.unset).toArray = ls at hl ⊢
  have hl : lv_has ls 1 [(0, .ref h0)] := hl
  obtain ⟨H, hHe⟩ : ∃ H : Heap, H = s.heap := ⟨_, rfl⟩
  rw [← hHe] at hP
  have hS : va_S A s.heap H [] := by rw [hHe]; exact hS
  refine pw_heap hHe ?_
  refine lv_aload_n hx hb dX3_init_0 rfl (lv_at hl 0 rfl) ?_
  refine W.objInit hx hb hown (hts (.methodLink RX3 3 objectInit) (List.mem_of_getElem? (i := 1) rfl)) (hts (.instanceMethod objectInit) (List.mem_of_getElem? (i := 2) rfl)) (hts (.code objectInit ⟨#[0xb1]⟩ 1 none) (List.mem_of_getElem? (i := 3) rfl)) rfl (by rw [hml]; exact hl.1) rfl dX3_init_1 (Nat.le_of_ble_eq_true rfl) (Nat.le_of_ble_eq_true rfl) ?_
  refine W.eq (g2 := F0 m 4 ls []) rfl ?_
  refine lv_aload_n hx hb dX3_init_4 rfl (lv_at hl 0 rfl) ?_
  refine lv_sipush (v := 200) hx hb dX3_init_5 (by decide) ?_
  refine va_newa (atype := .int) (ty := .int) (a0 := (200, .inl (fun _ => 0))) (N' := 200) hx hb (hts (.arrayClass .int) (List.mem_of_getElem? (i := 4) rfl)) rfl hK hP hD hS hA (fun _ => rfl) (by decide) (by decide) (Nat.le_of_ble_eq_true rfl) (Nat.le_of_ble_eq_true rfl) (Nat.le_of_ble_eq_true rfl) dX3_init_8 (fun q1 k2 H hK hP hD hS => ?_)
  have hP : va_P D vwCl [(h0, .inr (3, [.null, .null, .int 0])), (q1, .inl (k2, 200, .inl (fun _ => 0)))] H := hP
  have hD : va_D A [(h0, .inr (3, [.null, .null, .int 0])), (q1, .inl (k2, 200, .inl (fun _ => 0)))] := hD
  have hK : va_K D vwCl [(k2, .int)] s := hK
  refine W.widen (k := 1) (n := 200) (Nat.le_of_ble_eq_true rfl) (Nat.le_of_ble_eq_true rfl) ?_
  refine va_putF (D := D) (ci := 3) (v := .ref q1) (ty := .array .int) (C := RX3) (T := TX3) (N := 3) hx hb hts (fun _ h => List.mem_cons_of_mem _ (List.mem_append_right _ h)) tyX3 tyX3_ok nmX3 hown hK hP hD hS 0 rfl rfl 0 (by decide) (hts (.fieldLink RX3 9 "LineCites$Numbering" "lows" "[I") (List.mem_of_getElem? (i := 5) rfl)) (fun _ h9 => h9) rfl hin rfl (by decide +kernel) rfl rfl (Nat.le_of_ble_eq_true rfl) dX3_init_10 (fun H locs hP hD hS => ?_)
  have hP : va_P D vwCl [(h0, .inr (3, [.ref q1, .null, .int 0])), (q1, .inl (k2, 200, .inl (fun _ => 0)))] H := hP
  have hD : va_D A [(h0, .inr (3, [.ref q1, .null, .int 0])), (q1, .inl (k2, 200, .inl (fun _ => 0)))] := hD
  have hK : va_K D vwCl [(k2, .int)] s := hK
  refine lv_aload_n hx hb dX3_init_13 rfl (lv_at hl 0 rfl) ?_
  refine lv_sipush (v := 200) hx hb dX3_init_14 (by decide) ?_
  refine va_newa (atype := .int) (ty := .int) (a0 := (200, .inl (fun _ => 0))) (N' := 200) hx hb (hts (.arrayClass .int) (List.mem_of_getElem? (i := 4) rfl)) rfl hK hP hD hS hA (fun _ => rfl) (by decide) (by decide) (Nat.le_of_ble_eq_true rfl) (Nat.le_of_ble_eq_true rfl) (Nat.le_of_ble_eq_true rfl) dX3_init_17 (fun q3 k4 H hK hP hD hS => ?_)
  have hP : va_P D vwCl [(h0, .inr (3, [.ref q1, .null, .int 0])), (q1, .inl (k2, 200, .inl (fun _ => 0))), (q3, .inl (k4, 200, .inl (fun _ => 0)))] H := hP
  have hD : va_D A [(h0, .inr (3, [.ref q1, .null, .int 0])), (q1, .inl (k2, 200, .inl (fun _ => 0))), (q3, .inl (k4, 200, .inl (fun _ => 0)))] := hD
  have hK : va_K D vwCl [(k2, .int), (k4, .int)] s := hK
  refine W.widen (k := 2) (n := 400) (Nat.le_of_ble_eq_true rfl) (Nat.le_of_ble_eq_true rfl) ?_
  refine va_putF (D := D) (ci := 3) (v := .ref q3) (ty := .array .int) (C := RX3) (T := TX3) (N := 3) hx hb hts (fun _ h => List.mem_cons_of_mem _ (List.mem_append_right _ h)) tyX3 tyX3_ok nmX3 hown hK hP hD hS 0 rfl rfl 1 (by decide) (hts (.fieldLink RX3 15 "LineCites$Numbering" "highs" "[I") (List.mem_of_getElem? (i := 6) rfl)) (fun _ h9 => h9) rfl hin rfl (by decide +kernel) rfl rfl (Nat.le_of_ble_eq_true rfl) dX3_init_19 (fun H locs hP hD hS => ?_)
  have hP : va_P D vwCl [(h0, .inr (3, [.ref q1, .ref q3, .int 0])), (q1, .inl (k2, 200, .inl (fun _ => 0))), (q3, .inl (k4, 200, .inl (fun _ => 0)))] H := hP
  have hD : va_D A [(h0, .inr (3, [.ref q1, .ref q3, .int 0])), (q1, .inl (k2, 200, .inl (fun _ => 0))), (q3, .inl (k4, 200, .inl (fun _ => 0)))] := hD
  have hK : va_K D vwCl [(k2, .int), (k4, .int)] s := hK
  have hP9 := hP.sub (ws' := []) [] rfl
  have hD9 := hD.sub (ws' := []) [] (by decide) rfl
  have hK9 := hK.sub (tys' := []) [] rfl
  refine W.widen (k := 2) (n := 400) (Nat.le_of_ble_eq_true rfl) (Nat.le_of_ble_eq_true rfl) ?_
  exact W.vret hx hb hr (fun t ht hW => ⟨⟨(), rfl, trivial, by rw [ht]; exact hP9, va_K.moved hW.alike hK9, hD9⟩, hS.F ht⟩) hS.2.2 dX3_init_22
def w_X0_init : List Cond := .code yX0_init cX0_init 1 none :: ([.methodLink RX0 3 objectInit, .instanceMethod objectInit, .code objectInit ⟨#[0xb1]⟩ 1 none, .classLink RX0 9 RX8, .fieldLink RX0 11 "LineCites$Acts" "ring" "[LLineCites$Work;"] ++ wsX00)
set_option maxHeartbeats 4000000 in
set_option maxRecDepth 100000 in
theorem c_X0_init (l : Launch) (D : va_G) (h0 : Nat) (sz : Nat) : Met l yX0_init w_X0_init ({ frames := 1, cells := 1, slots := 10, locals := 12 }) (va_Pc [.ref h0] (fun U => U.heap.size = sz ∧ va_P D vwCl [(h0, .inr (0, [.null, .int 0, .int 0]))] U.heap ∧ va_K D vwCl [] U ∧ va_D (fun _ => True) [(h0, .inr (0, [.null, .int 0, .int 0]))] ∧ va_AO RX8 U)) (va_Qv (fun (_ : Unit) => True) (fun (_ : Unit) t => ∃ (a_ring : Nat), va_P D vwCl [(h0, .inr (0, [.ref a_ring, .int 0, .int 0]))] t.heap ∧ va_K D vwCl [] t ∧ va_D (va_A [(h0, .inr (0, [.null, .int 0, .int 0]))] sz) [(h0, .inr (0, [.ref a_ring, .int 0, .int 0]))]) (va_A [(h0, .inr (0, [.null, .int 0, .int 0]))] sz)) 1 10 (va_A [(h0, .inr (0, [.null, .int 0, .int 0]))] sz) := by
  refine Met.ofW (cc := cX0_init) (maxL := 1) (ret := none) (by decide) rfl ?_
  intro p e s m args below meth c s₁ B hml hv
  obtain ⟨rfl, hsz, hP, hK, hD0, hAO8⟩ := hv
  have hx := B.exec
  have hb := B.bytes
  have hr := B.returns
  have hts := atoms_spec (ws := w_X0_init) B.pre
  have hown : s.vm.findClass RX0 = some m.cls := findClass_of_methodNamed B.named
  have hlocks := B.notSynchronized
  have hin : meth.name = "<init>" := (name_of_methodNamed B.named B.method).1
  subst hsz
  have hD := hD0.self (sz := s.heap.size)
  generalize hAe : va_A [(h0, .inr (0, [.null, .int 0, .int 0]))] s.heap.size = A at hD ⊢
  have hA : ∀ q : Nat, s.heap.size ≤ q → A q := fun q h => by rw [← hAe]; exact Or.inr h
  have hS : va_S A s.heap s.heap [] := va_S.rf
  have hP : va_P D vwCl [(h0, .inr (0, [.null, .int 0, .int 0]))] s.heap := hP
  have hl := lv_entry ([.ref h0]) (n := 1) (Nat.le_of_ble_eq_true rfl)
  rw [lg_entry_eq]
  generalize (lg_sl ([.ref h0]) ++ List.replicate (1 - (lg_sl ([.ref h0])).length) Slot.unset).toArray = ls at hl ⊢
  have hl : lv_has ls 1 [(0, .ref h0)] := hl
  obtain ⟨H, hHe⟩ : ∃ H : Heap, H = s.heap := ⟨_, rfl⟩
  rw [← hHe] at hP
  have hS : va_S A s.heap H [] := by rw [hHe]; exact hS
  refine pw_heap hHe ?_
  refine lv_aload_n hx hb dX0_init_0 rfl (lv_at hl 0 rfl) ?_
  refine W.objInit hx hb hown (hts (.methodLink RX0 3 objectInit) (List.mem_of_getElem? (i := 1) rfl)) (hts (.instanceMethod objectInit) (List.mem_of_getElem? (i := 2) rfl)) (hts (.code objectInit ⟨#[0xb1]⟩ 1 none) (List.mem_of_getElem? (i := 3) rfl)) rfl (by rw [hml]; exact hl.1) rfl dX0_init_1 (Nat.le_of_ble_eq_true rfl) (Nat.le_of_ble_eq_true rfl) ?_
  refine W.eq (g2 := F0 m 4 ls []) rfl ?_
  refine lv_aload_n hx hb dX0_init_4 rfl (lv_at hl 0 rfl) ?_
  refine lv_bipush (v := 10) hx hb dX0_init_5 (by decide) ?_
  refine va_newq (C := RX8) (N' := 10) hx hb hown (hts (.classLink RX0 9 RX8) (List.mem_of_getElem? (i := 4) rfl)) hAO8 hK hP hD hS hA (by decide) (by decide) (Nat.le_of_ble_eq_true rfl) (Nat.le_of_ble_eq_true rfl) (Nat.le_of_ble_eq_true rfl) dX0_init_7 (fun q1 k2 H hK hP hD hS => ?_)
  have hP : va_P D vwCl [(h0, .inr (0, [.null, .int 0, .int 0])), (q1, .inl (k2, 10, .inr (.inr (.inr (.inr (fun _ => none))))))] H := hP
  have hD : va_D A [(h0, .inr (0, [.null, .int 0, .int 0])), (q1, .inl (k2, 10, .inr (.inr (.inr (.inr (fun _ => none))))))] := hD
  have hK : va_K D vwCl [(k2, .object RX8)] s := hK
  refine W.widen (k := 1) (n := 10) (Nat.le_of_ble_eq_true rfl) (Nat.le_of_ble_eq_true rfl) ?_
  refine va_putF (D := D) (ci := 0) (v := .ref q1) (ty := .array (.object "LineCites$Work")) (C := RX0) (T := TX0) (N := 3) hx hb hts (fun _ h => List.mem_cons_of_mem _ (List.mem_append_right _ h)) tyX0 tyX0_ok nmX0 hown hK hP hD hS 0 rfl rfl 0 (by decide) (hts (.fieldLink RX0 11 "LineCites$Acts" "ring" "[LLineCites$Work;") (List.mem_of_getElem? (i := 5) rfl)) (fun _ h9 => h9) rfl hin rfl (by decide +kernel) rfl rfl (Nat.le_of_ble_eq_true rfl) dX0_init_10 (fun H locs hP hD hS => ?_)
  have hP : va_P D vwCl [(h0, .inr (0, [.ref q1, .int 0, .int 0])), (q1, .inl (k2, 10, .inr (.inr (.inr (.inr (fun _ => none))))))] H := hP
  have hD : va_D A [(h0, .inr (0, [.ref q1, .int 0, .int 0])), (q1, .inl (k2, 10, .inr (.inr (.inr (.inr (fun _ => none))))))] := hD
  have hK : va_K D vwCl [(k2, .object RX8)] s := hK
  have hP9 := hP.sub (ws' := [(h0, .inr (0, [.ref q1, .int 0, .int 0]))]) [0] rfl
  have hD9 := hD.sub (ws' := [(h0, .inr (0, [.ref q1, .int 0, .int 0]))]) [0] (by decide) rfl
  have hK9 := hK.sub (tys' := []) [] rfl
  refine W.widen (k := 1) (n := 10) (Nat.le_of_ble_eq_true rfl) (Nat.le_of_ble_eq_true rfl) ?_
  exact W.vret hx hb hr (fun t ht hW => ⟨⟨(), rfl, trivial, q1, by rw [ht]; exact hP9, va_K.moved hW.alike hK9, hD9⟩, hS.F ht⟩) hS.2.2 dX0_init_13
def w_X7_init : List Cond := .code yX7_init cX7_init 1 none :: ([.methodLink RX7 3 objectInit, .instanceMethod objectInit, .code objectInit ⟨#[0xb1]⟩ 1 none, .arrayClass .byte, .fieldLink RX7 9 "LineCites$Tape" "bytes" "[B"] ++ wsX70)
set_option maxHeartbeats 4000000 in
set_option maxRecDepth 100000 in
theorem c_X7_init (l : Launch) (D : va_G) (h0 : Nat) (sz : Nat) : Met l yX7_init w_X7_init ({ frames := 1, cells := 1, slots := 200, locals := 12 }) (va_Pc [.ref h0] (fun U => U.heap.size = sz ∧ va_P D vwCl [(h0, .inr (7, [.null, .int 0, .int 0]))] U.heap ∧ va_K D vwCl [] U ∧ va_D (fun _ => True) [(h0, .inr (7, [.null, .int 0, .int 0]))])) (va_Qv (fun (_ : Unit) => True) (fun (_ : Unit) t => ∃ (y_b : Nat) (k_b : ClassId), va_P D vwCl [(h0, .inr (7, [.ref y_b, .int 0, .int 0])), (y_b, .inl (k_b, 200, .inl (fun _ => 0)))] t.heap ∧ va_K D vwCl [(k_b, .byte)] t ∧ va_D (va_A [(h0, .inr (7, [.null, .int 0, .int 0]))] sz) [(h0, .inr (7, [.ref y_b, .int 0, .int 0])), (y_b, .inl (k_b, 200, .inl (fun _ => 0)))]) (va_A [(h0, .inr (7, [.null, .int 0, .int 0]))] sz)) 1 200 (va_A [(h0, .inr (7, [.null, .int 0, .int 0]))] sz) := by
  refine Met.ofW (cc := cX7_init) (maxL := 1) (ret := none) (by decide) rfl ?_
  intro p e s m args below meth c s₁ B hml hv
  obtain ⟨rfl, hsz, hP, hK, hD0⟩ := hv
  have hx := B.exec
  have hb := B.bytes
  have hr := B.returns
  have hts := atoms_spec (ws := w_X7_init) B.pre
  have hown : s.vm.findClass RX7 = some m.cls := findClass_of_methodNamed B.named
  have hlocks := B.notSynchronized
  have hin : meth.name = "<init>" := (name_of_methodNamed B.named B.method).1
  subst hsz
  have hD := hD0.self (sz := s.heap.size)
  generalize hAe : va_A [(h0, .inr (7, [.null, .int 0, .int 0]))] s.heap.size = A at hD ⊢
  have hA : ∀ q : Nat, s.heap.size ≤ q → A q := fun q h => by rw [← hAe]; exact Or.inr h
  have hS : va_S A s.heap s.heap [] := va_S.rf
  have hP : va_P D vwCl [(h0, .inr (7, [.null, .int 0, .int 0]))] s.heap := hP
  have hl := lv_entry ([.ref h0]) (n := 1) (Nat.le_of_ble_eq_true rfl)
  rw [lg_entry_eq]
  generalize (lg_sl ([.ref h0]) ++ List.replicate (1 - (lg_sl ([.ref h0])).length) Slot.unset).toArray = ls at hl ⊢
  have hl : lv_has ls 1 [(0, .ref h0)] := hl
  obtain ⟨H, hHe⟩ : ∃ H : Heap, H = s.heap := ⟨_, rfl⟩
  rw [← hHe] at hP
  have hS : va_S A s.heap H [] := by rw [hHe]; exact hS
  refine pw_heap hHe ?_
  refine lv_aload_n hx hb dX7_init_0 rfl (lv_at hl 0 rfl) ?_
  refine W.objInit hx hb hown (hts (.methodLink RX7 3 objectInit) (List.mem_of_getElem? (i := 1) rfl)) (hts (.instanceMethod objectInit) (List.mem_of_getElem? (i := 2) rfl)) (hts (.code objectInit ⟨#[0xb1]⟩ 1 none) (List.mem_of_getElem? (i := 3) rfl)) rfl (by rw [hml]; exact hl.1) rfl dX7_init_1 (Nat.le_of_ble_eq_true rfl) (Nat.le_of_ble_eq_true rfl) ?_
  refine W.eq (g2 := F0 m 4 ls []) rfl ?_
  refine lv_aload_n hx hb dX7_init_4 rfl (lv_at hl 0 rfl) ?_
  refine lv_sipush (v := 200) hx hb dX7_init_5 (by decide) ?_
  refine va_newa (atype := .byte) (ty := .byte) (a0 := (200, .inl (fun _ => 0))) (N' := 200) hx hb (hts (.arrayClass .byte) (List.mem_of_getElem? (i := 4) rfl)) rfl hK hP hD hS hA (fun _ => rfl) (by decide) (by decide) (Nat.le_of_ble_eq_true rfl) (Nat.le_of_ble_eq_true rfl) (Nat.le_of_ble_eq_true rfl) dX7_init_8 (fun q1 k2 H hK hP hD hS => ?_)
  have hP : va_P D vwCl [(h0, .inr (7, [.null, .int 0, .int 0])), (q1, .inl (k2, 200, .inl (fun _ => 0)))] H := hP
  have hD : va_D A [(h0, .inr (7, [.null, .int 0, .int 0])), (q1, .inl (k2, 200, .inl (fun _ => 0)))] := hD
  have hK : va_K D vwCl [(k2, .byte)] s := hK
  refine W.widen (k := 1) (n := 200) (Nat.le_of_ble_eq_true rfl) (Nat.le_of_ble_eq_true rfl) ?_
  refine va_putF (D := D) (ci := 7) (v := .ref q1) (ty := .array .byte) (C := RX7) (T := TX7) (N := 3) hx hb hts (fun _ h => List.mem_cons_of_mem _ (List.mem_append_right _ h)) tyX7 tyX7_ok nmX7 hown hK hP hD hS 0 rfl rfl 0 (by decide) (hts (.fieldLink RX7 9 "LineCites$Tape" "bytes" "[B") (List.mem_of_getElem? (i := 5) rfl)) (fun _ h9 => h9) rfl hin rfl (by decide +kernel) rfl rfl (Nat.le_of_ble_eq_true rfl) dX7_init_10 (fun H locs hP hD hS => ?_)
  have hP : va_P D vwCl [(h0, .inr (7, [.ref q1, .int 0, .int 0])), (q1, .inl (k2, 200, .inl (fun _ => 0)))] H := hP
  have hD : va_D A [(h0, .inr (7, [.ref q1, .int 0, .int 0])), (q1, .inl (k2, 200, .inl (fun _ => 0)))] := hD
  have hK : va_K D vwCl [(k2, .byte)] s := hK
  have hP9 := hP.sub (ws' := [(h0, .inr (7, [.ref q1, .int 0, .int 0])), (q1, .inl (k2, 200, .inl (fun _ => 0)))]) [0, 1] rfl
  have hD9 := hD.sub (ws' := [(h0, .inr (7, [.ref q1, .int 0, .int 0])), (q1, .inl (k2, 200, .inl (fun _ => 0)))]) [0, 1] (by decide) rfl
  have hK9 := hK.sub (tys' := [(k2, .byte)]) [0] rfl
  refine W.widen (k := 1) (n := 200) (Nat.le_of_ble_eq_true rfl) (Nat.le_of_ble_eq_true rfl) ?_
  exact W.vret hx hb hr (fun t ht hW => ⟨⟨(), rfl, trivial, q1, k2, by rw [ht]; exact hP9, va_K.moved hW.alike hK9, hD9⟩, hS.F ht⟩) hS.2.2 dX7_init_13
def w_X8_init : List Cond := .code yX8_init cX8_init 1 none :: ([.methodLink RX8 3 objectInit, .instanceMethod objectInit, .code objectInit ⟨#[0xb1]⟩ 1 none, .arrayClass .int, .fieldLink RX8 9 "LineCites$Work" "stretchCounts" "[I", .fieldLink RX8 15 "LineCites$Work" "stretchParts" "[I", .fieldLink RX8 18 "LineCites$Work" "citedParts" "[I", .fieldLink RX8 21 "LineCites$Work" "seenNumbers" "[I", .fieldLink RX8 24 "LineCites$Work" "seenLines" "[I"] ++ wsX80)
set_option maxHeartbeats 4000000 in
set_option maxRecDepth 100000 in
theorem c_X8_init (l : Launch) (D : va_G) (h0 : Nat) (sz : Nat) : Met l yX8_init w_X8_init ({ frames := 1, cells := 5, slots := 181, locals := 12 }) (va_Pc [.ref h0] (fun U => U.heap.size = sz ∧ va_P D vwCl [(h0, .inr (8, [.null, .null, .null, .null, .null, .int 0, .int 0, .int 0]))] U.heap ∧ va_K D vwCl [] U ∧ va_D (fun _ => True) [(h0, .inr (8, [.null, .null, .null, .null, .null, .int 0, .int 0, .int 0]))])) (va_Qv (fun (_ : Unit) => True) (fun (_ : Unit) t => ∃ (y_sc : Nat) (y_sp : Nat) (y_cp : Nat) (y_sn : Nat) (y_sl : Nat) (k_c : ClassId), va_P D vwCl [(h0, .inr (8, [.ref y_sc, .ref y_sp, .ref y_cp, .ref y_sn, .ref y_sl, .int 0, .int 0, .int 0])), (y_cp, .inl (k_c, 32, .inl (fun _ => 0)))] t.heap ∧ va_K D vwCl [(k_c, .int)] t ∧ va_D (va_A [(h0, .inr (8, [.null, .null, .null, .null, .null, .int 0, .int 0, .int 0]))] sz) [(h0, .inr (8, [.ref y_sc, .ref y_sp, .ref y_cp, .ref y_sn, .ref y_sl, .int 0, .int 0, .int 0])), (y_cp, .inl (k_c, 32, .inl (fun _ => 0)))]) (va_A [(h0, .inr (8, [.null, .null, .null, .null, .null, .int 0, .int 0, .int 0]))] sz)) 5 181 (va_A [(h0, .inr (8, [.null, .null, .null, .null, .null, .int 0, .int 0, .int 0]))] sz) := by
  refine Met.ofW (cc := cX8_init) (maxL := 1) (ret := none) (by decide) rfl ?_
  intro p e s m args below meth c s₁ B hml hv
  obtain ⟨rfl, hsz, hP, hK, hD0⟩ := hv
  have hx := B.exec
  have hb := B.bytes
  have hr := B.returns
  have hts := atoms_spec (ws := w_X8_init) B.pre
  have hown : s.vm.findClass RX8 = some m.cls := findClass_of_methodNamed B.named
  have hlocks := B.notSynchronized
  have hin : meth.name = "<init>" := (name_of_methodNamed B.named B.method).1
  subst hsz
  have hD := hD0.self (sz := s.heap.size)
  generalize hAe : va_A [(h0, .inr (8, [.null, .null, .null, .null, .null, .int 0, .int 0, .int 0]))] s.heap.size = A at hD ⊢
  have hA : ∀ q : Nat, s.heap.size ≤ q → A q := fun q h => by rw [← hAe]; exact Or.inr h
  have hS : va_S A s.heap s.heap [] := va_S.rf
  have hP : va_P D vwCl [(h0, .inr (8, [.null, .null, .null, .null, .null, .int 0, .int 0, .int 0]))] s.heap := hP
  have hl := lv_entry ([.ref h0]) (n := 1) (Nat.le_of_ble_eq_true rfl)
  rw [lg_entry_eq]
  generalize (lg_sl ([.ref h0]) ++ List.replicate (1 - (lg_sl ([.ref h0])).length) Slot.unset).toArray = ls at hl ⊢
  have hl : lv_has ls 1 [(0, .ref h0)] := hl
  obtain ⟨H, hHe⟩ : ∃ H : Heap, H = s.heap := ⟨_, rfl⟩
  rw [← hHe] at hP
  have hS : va_S A s.heap H [] := by rw [hHe]; exact hS
  refine pw_heap hHe ?_
  refine lv_aload_n hx hb dX8_init_0 rfl (lv_at hl 0 rfl) ?_
  refine W.objInit hx hb hown (hts (.methodLink RX8 3 objectInit) (List.mem_of_getElem? (i := 1) rfl)) (hts (.instanceMethod objectInit) (List.mem_of_getElem? (i := 2) rfl)) (hts (.code objectInit ⟨#[0xb1]⟩ 1 none) (List.mem_of_getElem? (i := 3) rfl)) rfl (by rw [hml]; exact hl.1) rfl dX8_init_1 (Nat.le_of_ble_eq_true rfl) (Nat.le_of_ble_eq_true rfl) ?_
  refine W.eq (g2 := F0 m 4 ls []) rfl ?_
  refine lv_aload_n hx hb dX8_init_4 rfl (lv_at hl 0 rfl) ?_
  refine lv_iconst (v := 5) hx hb dX8_init_5 (by decide) ?_
  refine va_newa (atype := .int) (ty := .int) (a0 := (5, .inl (fun _ => 0))) (N' := 5) hx hb (hts (.arrayClass .int) (List.mem_of_getElem? (i := 4) rfl)) rfl hK hP hD hS hA (fun _ => rfl) (by decide) (by decide) (Nat.le_of_ble_eq_true rfl) (Nat.le_of_ble_eq_true rfl) (Nat.le_of_ble_eq_true rfl) dX8_init_6 (fun q1 k2 H hK hP hD hS => ?_)
  have hP : va_P D vwCl [(h0, .inr (8, [.null, .null, .null, .null, .null, .int 0, .int 0, .int 0])), (q1, .inl (k2, 5, .inl (fun _ => 0)))] H := hP
  have hD : va_D A [(h0, .inr (8, [.null, .null, .null, .null, .null, .int 0, .int 0, .int 0])), (q1, .inl (k2, 5, .inl (fun _ => 0)))] := hD
  have hK : va_K D vwCl [(k2, .int)] s := hK
  refine W.widen (k := 1) (n := 5) (Nat.le_of_ble_eq_true rfl) (Nat.le_of_ble_eq_true rfl) ?_
  refine va_putF (D := D) (ci := 8) (v := .ref q1) (ty := .array .int) (C := RX8) (T := TX8) (N := 8) hx hb hts (fun _ h => List.mem_cons_of_mem _ (List.mem_append_right _ h)) tyX8 tyX8_ok nmX8 hown hK hP hD hS 0 rfl rfl 0 (by decide) (hts (.fieldLink RX8 9 "LineCites$Work" "stretchCounts" "[I") (List.mem_of_getElem? (i := 5) rfl)) (fun _ h9 => h9) rfl hin rfl (by decide +kernel) rfl rfl (Nat.le_of_ble_eq_true rfl) dX8_init_8 (fun H locs hP hD hS => ?_)
  have hP : va_P D vwCl [(h0, .inr (8, [.ref q1, .null, .null, .null, .null, .int 0, .int 0, .int 0])), (q1, .inl (k2, 5, .inl (fun _ => 0)))] H := hP
  have hD : va_D A [(h0, .inr (8, [.ref q1, .null, .null, .null, .null, .int 0, .int 0, .int 0])), (q1, .inl (k2, 5, .inl (fun _ => 0)))] := hD
  have hK : va_K D vwCl [(k2, .int)] s := hK
  refine lv_aload_n hx hb dX8_init_11 rfl (lv_at hl 0 rfl) ?_
  refine lv_bipush (v := 120) hx hb dX8_init_12 (by decide) ?_
  refine va_newa (atype := .int) (ty := .int) (a0 := (120, .inl (fun _ => 0))) (N' := 120) hx hb (hts (.arrayClass .int) (List.mem_of_getElem? (i := 4) rfl)) rfl hK hP hD hS hA (fun _ => rfl) (by decide) (by decide) (Nat.le_of_ble_eq_true rfl) (Nat.le_of_ble_eq_true rfl) (Nat.le_of_ble_eq_true rfl) dX8_init_14 (fun q3 k4 H hK hP hD hS => ?_)
  have hP : va_P D vwCl [(h0, .inr (8, [.ref q1, .null, .null, .null, .null, .int 0, .int 0, .int 0])), (q1, .inl (k2, 5, .inl (fun _ => 0))), (q3, .inl (k4, 120, .inl (fun _ => 0)))] H := hP
  have hD : va_D A [(h0, .inr (8, [.ref q1, .null, .null, .null, .null, .int 0, .int 0, .int 0])), (q1, .inl (k2, 5, .inl (fun _ => 0))), (q3, .inl (k4, 120, .inl (fun _ => 0)))] := hD
  have hK : va_K D vwCl [(k2, .int), (k4, .int)] s := hK
  refine W.widen (k := 2) (n := 125) (Nat.le_of_ble_eq_true rfl) (Nat.le_of_ble_eq_true rfl) ?_
  refine va_putF (D := D) (ci := 8) (v := .ref q3) (ty := .array .int) (C := RX8) (T := TX8) (N := 8) hx hb hts (fun _ h => List.mem_cons_of_mem _ (List.mem_append_right _ h)) tyX8 tyX8_ok nmX8 hown hK hP hD hS 0 rfl rfl 1 (by decide) (hts (.fieldLink RX8 15 "LineCites$Work" "stretchParts" "[I") (List.mem_of_getElem? (i := 6) rfl)) (fun _ h9 => h9) rfl hin rfl (by decide +kernel) rfl rfl (Nat.le_of_ble_eq_true rfl) dX8_init_16 (fun H locs hP hD hS => ?_)
  have hP : va_P D vwCl [(h0, .inr (8, [.ref q1, .ref q3, .null, .null, .null, .int 0, .int 0, .int 0])), (q1, .inl (k2, 5, .inl (fun _ => 0))), (q3, .inl (k4, 120, .inl (fun _ => 0)))] H := hP
  have hD : va_D A [(h0, .inr (8, [.ref q1, .ref q3, .null, .null, .null, .int 0, .int 0, .int 0])), (q1, .inl (k2, 5, .inl (fun _ => 0))), (q3, .inl (k4, 120, .inl (fun _ => 0)))] := hD
  have hK : va_K D vwCl [(k2, .int), (k4, .int)] s := hK
  refine lv_aload_n hx hb dX8_init_19 rfl (lv_at hl 0 rfl) ?_
  refine lv_bipush (v := 32) hx hb dX8_init_20 (by decide) ?_
  refine va_newa (atype := .int) (ty := .int) (a0 := (32, .inl (fun _ => 0))) (N' := 32) hx hb (hts (.arrayClass .int) (List.mem_of_getElem? (i := 4) rfl)) rfl hK hP hD hS hA (fun _ => rfl) (by decide) (by decide) (Nat.le_of_ble_eq_true rfl) (Nat.le_of_ble_eq_true rfl) (Nat.le_of_ble_eq_true rfl) dX8_init_22 (fun q5 k6 H hK hP hD hS => ?_)
  have hP : va_P D vwCl [(h0, .inr (8, [.ref q1, .ref q3, .null, .null, .null, .int 0, .int 0, .int 0])), (q1, .inl (k2, 5, .inl (fun _ => 0))), (q3, .inl (k4, 120, .inl (fun _ => 0))), (q5, .inl (k6, 32, .inl (fun _ => 0)))] H := hP
  have hD : va_D A [(h0, .inr (8, [.ref q1, .ref q3, .null, .null, .null, .int 0, .int 0, .int 0])), (q1, .inl (k2, 5, .inl (fun _ => 0))), (q3, .inl (k4, 120, .inl (fun _ => 0))), (q5, .inl (k6, 32, .inl (fun _ => 0)))] := hD
  have hK : va_K D vwCl [(k2, .int), (k4, .int), (k6, .int)] s := hK
  refine W.widen (k := 3) (n := 157) (Nat.le_of_ble_eq_true rfl) (Nat.le_of_ble_eq_true rfl) ?_
  refine va_putF (D := D) (ci := 8) (v := .ref q5) (ty := .array .int) (C := RX8) (T := TX8) (N := 8) hx hb hts (fun _ h => List.mem_cons_of_mem _ (List.mem_append_right _ h)) tyX8 tyX8_ok nmX8 hown hK hP hD hS 0 rfl rfl 2 (by decide) (hts (.fieldLink RX8 18 "LineCites$Work" "citedParts" "[I") (List.mem_of_getElem? (i := 7) rfl)) (fun _ h9 => h9) rfl hin rfl (by decide +kernel) rfl rfl (Nat.le_of_ble_eq_true rfl) dX8_init_24 (fun H locs hP hD hS => ?_)
  have hP : va_P D vwCl [(h0, .inr (8, [.ref q1, .ref q3, .ref q5, .null, .null, .int 0, .int 0, .int 0])), (q1, .inl (k2, 5, .inl (fun _ => 0))), (q3, .inl (k4, 120, .inl (fun _ => 0))), (q5, .inl (k6, 32, .inl (fun _ => 0)))] H := hP
  have hD : va_D A [(h0, .inr (8, [.ref q1, .ref q3, .ref q5, .null, .null, .int 0, .int 0, .int 0])), (q1, .inl (k2, 5, .inl (fun _ => 0))), (q3, .inl (k4, 120, .inl (fun _ => 0))), (q5, .inl (k6, 32, .inl (fun _ => 0)))] := hD
  have hK : va_K D vwCl [(k2, .int), (k4, .int), (k6, .int)] s := hK
  refine lv_aload_n hx hb dX8_init_27 rfl (lv_at hl 0 rfl) ?_
  refine lv_bipush (v := 12) hx hb dX8_init_28 (by decide) ?_
  refine va_newa (atype := .int) (ty := .int) (a0 := (12, .inl (fun _ => 0))) (N' := 12) hx hb (hts (.arrayClass .int) (List.mem_of_getElem? (i := 4) rfl)) rfl hK hP hD hS hA (fun _ => rfl) (by decide) (by decide) (Nat.le_of_ble_eq_true rfl) (Nat.le_of_ble_eq_true rfl) (Nat.le_of_ble_eq_true rfl) dX8_init_30 (fun q7 k8 H hK hP hD hS => ?_)
  have hP : va_P D vwCl [(h0, .inr (8, [.ref q1, .ref q3, .ref q5, .null, .null, .int 0, .int 0, .int 0])), (q1, .inl (k2, 5, .inl (fun _ => 0))), (q3, .inl (k4, 120, .inl (fun _ => 0))), (q5, .inl (k6, 32, .inl (fun _ => 0))), (q7, .inl (k8, 12, .inl (fun _ => 0)))] H := hP
  have hD : va_D A [(h0, .inr (8, [.ref q1, .ref q3, .ref q5, .null, .null, .int 0, .int 0, .int 0])), (q1, .inl (k2, 5, .inl (fun _ => 0))), (q3, .inl (k4, 120, .inl (fun _ => 0))), (q5, .inl (k6, 32, .inl (fun _ => 0))), (q7, .inl (k8, 12, .inl (fun _ => 0)))] := hD
  have hK : va_K D vwCl [(k2, .int), (k4, .int), (k6, .int), (k8, .int)] s := hK
  refine W.widen (k := 4) (n := 169) (Nat.le_of_ble_eq_true rfl) (Nat.le_of_ble_eq_true rfl) ?_
  refine va_putF (D := D) (ci := 8) (v := .ref q7) (ty := .array .int) (C := RX8) (T := TX8) (N := 8) hx hb hts (fun _ h => List.mem_cons_of_mem _ (List.mem_append_right _ h)) tyX8 tyX8_ok nmX8 hown hK hP hD hS 0 rfl rfl 3 (by decide) (hts (.fieldLink RX8 21 "LineCites$Work" "seenNumbers" "[I") (List.mem_of_getElem? (i := 8) rfl)) (fun _ h9 => h9) rfl hin rfl (by decide +kernel) rfl rfl (Nat.le_of_ble_eq_true rfl) dX8_init_32 (fun H locs hP hD hS => ?_)
  have hP : va_P D vwCl [(h0, .inr (8, [.ref q1, .ref q3, .ref q5, .ref q7, .null, .int 0, .int 0, .int 0])), (q1, .inl (k2, 5, .inl (fun _ => 0))), (q3, .inl (k4, 120, .inl (fun _ => 0))), (q5, .inl (k6, 32, .inl (fun _ => 0))), (q7, .inl (k8, 12, .inl (fun _ => 0)))] H := hP
  have hD : va_D A [(h0, .inr (8, [.ref q1, .ref q3, .ref q5, .ref q7, .null, .int 0, .int 0, .int 0])), (q1, .inl (k2, 5, .inl (fun _ => 0))), (q3, .inl (k4, 120, .inl (fun _ => 0))), (q5, .inl (k6, 32, .inl (fun _ => 0))), (q7, .inl (k8, 12, .inl (fun _ => 0)))] := hD
  have hK : va_K D vwCl [(k2, .int), (k4, .int), (k6, .int), (k8, .int)] s := hK
  refine lv_aload_n hx hb dX8_init_35 rfl (lv_at hl 0 rfl) ?_
  refine lv_bipush (v := 12) hx hb dX8_init_36 (by decide) ?_
  refine va_newa (atype := .int) (ty := .int) (a0 := (12, .inl (fun _ => 0))) (N' := 12) hx hb (hts (.arrayClass .int) (List.mem_of_getElem? (i := 4) rfl)) rfl hK hP hD hS hA (fun _ => rfl) (by decide) (by decide) (Nat.le_of_ble_eq_true rfl) (Nat.le_of_ble_eq_true rfl) (Nat.le_of_ble_eq_true rfl) dX8_init_38 (fun q9 k10 H hK hP hD hS => ?_)
  have hP : va_P D vwCl [(h0, .inr (8, [.ref q1, .ref q3, .ref q5, .ref q7, .null, .int 0, .int 0, .int 0])), (q1, .inl (k2, 5, .inl (fun _ => 0))), (q3, .inl (k4, 120, .inl (fun _ => 0))), (q5, .inl (k6, 32, .inl (fun _ => 0))), (q7, .inl (k8, 12, .inl (fun _ => 0))), (q9, .inl (k10, 12, .inl (fun _ => 0)))] H := hP
  have hD : va_D A [(h0, .inr (8, [.ref q1, .ref q3, .ref q5, .ref q7, .null, .int 0, .int 0, .int 0])), (q1, .inl (k2, 5, .inl (fun _ => 0))), (q3, .inl (k4, 120, .inl (fun _ => 0))), (q5, .inl (k6, 32, .inl (fun _ => 0))), (q7, .inl (k8, 12, .inl (fun _ => 0))), (q9, .inl (k10, 12, .inl (fun _ => 0)))] := hD
  have hK : va_K D vwCl [(k2, .int), (k4, .int), (k6, .int), (k8, .int), (k10, .int)] s := hK
  refine W.widen (k := 5) (n := 181) (Nat.le_of_ble_eq_true rfl) (Nat.le_of_ble_eq_true rfl) ?_
  refine va_putF (D := D) (ci := 8) (v := .ref q9) (ty := .array .int) (C := RX8) (T := TX8) (N := 8) hx hb hts (fun _ h => List.mem_cons_of_mem _ (List.mem_append_right _ h)) tyX8 tyX8_ok nmX8 hown hK hP hD hS 0 rfl rfl 4 (by decide) (hts (.fieldLink RX8 24 "LineCites$Work" "seenLines" "[I") (List.mem_of_getElem? (i := 9) rfl)) (fun _ h9 => h9) rfl hin rfl (by decide +kernel) rfl rfl (Nat.le_of_ble_eq_true rfl) dX8_init_40 (fun H locs hP hD hS => ?_)
  have hP : va_P D vwCl [(h0, .inr (8, [.ref q1, .ref q3, .ref q5, .ref q7, .ref q9, .int 0, .int 0, .int 0])), (q1, .inl (k2, 5, .inl (fun _ => 0))), (q3, .inl (k4, 120, .inl (fun _ => 0))), (q5, .inl (k6, 32, .inl (fun _ => 0))), (q7, .inl (k8, 12, .inl (fun _ => 0))), (q9, .inl (k10, 12, .inl (fun _ => 0)))] H := hP
  have hD : va_D A [(h0, .inr (8, [.ref q1, .ref q3, .ref q5, .ref q7, .ref q9, .int 0, .int 0, .int 0])), (q1, .inl (k2, 5, .inl (fun _ => 0))), (q3, .inl (k4, 120, .inl (fun _ => 0))), (q5, .inl (k6, 32, .inl (fun _ => 0))), (q7, .inl (k8, 12, .inl (fun _ => 0))), (q9, .inl (k10, 12, .inl (fun _ => 0)))] := hD
  have hK : va_K D vwCl [(k2, .int), (k4, .int), (k6, .int), (k8, .int), (k10, .int)] s := hK
  have hP9 := hP.sub (ws' := [(h0, .inr (8, [.ref q1, .ref q3, .ref q5, .ref q7, .ref q9, .int 0, .int 0, .int 0])), (q5, .inl (k6, 32, .inl (fun _ => 0)))]) [0, 3] rfl
  have hD9 := hD.sub (ws' := [(h0, .inr (8, [.ref q1, .ref q3, .ref q5, .ref q7, .ref q9, .int 0, .int 0, .int 0])), (q5, .inl (k6, 32, .inl (fun _ => 0)))]) [0, 3] (by decide) rfl
  have hK9 := hK.sub (tys' := [(k6, .int)]) [2] rfl
  refine W.widen (k := 5) (n := 181) (Nat.le_of_ble_eq_true rfl) (Nat.le_of_ble_eq_true rfl) ?_
  exact W.vret hx hb hr (fun t ht hW => ⟨⟨(), rfl, trivial, q1, q3, q5, q7, q9, k6, by rw [ht]; exact hP9, va_K.moved hW.alike hK9, hD9⟩, hS.F ht⟩) hS.2.2 dX8_init_43
def w_X4_init : List Cond := .code yX4_init cX4_init 3 none :: ([.methodLink RX4 3 objectInit, .instanceMethod objectInit, .code objectInit ⟨#[0xb1]⟩ 1 none, .fieldLink RX4 9 "LineCites$Reader" "tape" "LLineCites$Tape;", .fieldLink RX4 15 "LineCites$Reader" "draft" "LLineCites$Work;"] ++ wsX40)
set_option maxHeartbeats 4000000 in
set_option maxRecDepth 100000 in
theorem c_X4_init (l : Launch) (D : va_G) (h0 : Nat) (a_t : Nat) (a_d : Nat) (sz : Nat) : Met l yX4_init w_X4_init ({ frames := 1, cells := 0, slots := 0, locals := 12 }) (va_Pc [.ref h0, .ref a_t, .ref a_d] (fun U => U.heap.size = sz ∧ va_P D vwCl [(h0, .inr (4, [.null, .null, .int 0, .int 0, .int 0, .int 0, .int 0]))] U.heap ∧ va_K D vwCl [] U ∧ va_D (fun _ => True) [(h0, .inr (4, [.null, .null, .int 0, .int 0, .int 0, .int 0, .int 0]))])) (va_Qv (fun (_ : Unit) => True) (fun (_ : Unit) t => va_P D vwCl [(h0, .inr (4, [.ref a_t, .ref a_d, .int 0, .int 0, .int 0, .int 0, .int 0]))] t.heap ∧ va_K D vwCl [] t ∧ va_D (va_A [(h0, .inr (4, [.null, .null, .int 0, .int 0, .int 0, .int 0, .int 0]))] sz) [(h0, .inr (4, [.ref a_t, .ref a_d, .int 0, .int 0, .int 0, .int 0, .int 0]))]) (va_A [(h0, .inr (4, [.null, .null, .int 0, .int 0, .int 0, .int 0, .int 0]))] sz)) 0 0 (va_A [(h0, .inr (4, [.null, .null, .int 0, .int 0, .int 0, .int 0, .int 0]))] sz) := by
  refine Met.ofW (cc := cX4_init) (maxL := 3) (ret := none) (by decide) rfl ?_
  intro p e s m args below meth c s₁ B hml hv
  obtain ⟨rfl, hsz, hP, hK, hD0⟩ := hv
  have hx := B.exec
  have hb := B.bytes
  have hr := B.returns
  have hts := atoms_spec (ws := w_X4_init) B.pre
  have hown : s.vm.findClass RX4 = some m.cls := findClass_of_methodNamed B.named
  have hlocks := B.notSynchronized
  have hin : meth.name = "<init>" := (name_of_methodNamed B.named B.method).1
  subst hsz
  have hD := hD0.self (sz := s.heap.size)
  generalize hAe : va_A [(h0, .inr (4, [.null, .null, .int 0, .int 0, .int 0, .int 0, .int 0]))] s.heap.size = A at hD ⊢
  have hA : ∀ q : Nat, s.heap.size ≤ q → A q := fun q h => by rw [← hAe]; exact Or.inr h
  have hS : va_S A s.heap s.heap [] := va_S.rf
  have hP : va_P D vwCl [(h0, .inr (4, [.null, .null, .int 0, .int 0, .int 0, .int 0, .int 0]))] s.heap := hP
  have hl := lv_entry ([.ref h0, .ref a_t, .ref a_d]) (n := 3) (Nat.le_of_ble_eq_true rfl)
  rw [lg_entry_eq]
  generalize (lg_sl ([.ref h0, .ref a_t, .ref a_d]) ++ List.replicate (3 - (lg_sl ([.ref h0, .ref a_t, .ref a_d])).length) Slot.unset).toArray = ls at hl ⊢
  have hl : lv_has ls 3 [(0, .ref h0), (1, .ref a_t), (2, .ref a_d)] := hl
  obtain ⟨H, hHe⟩ : ∃ H : Heap, H = s.heap := ⟨_, rfl⟩
  rw [← hHe] at hP
  have hS : va_S A s.heap H [] := by rw [hHe]; exact hS
  refine pw_heap hHe ?_
  refine lv_aload_n hx hb dX4_init_0 rfl (lv_at hl 0 rfl) ?_
  refine W.objInit hx hb hown (hts (.methodLink RX4 3 objectInit) (List.mem_of_getElem? (i := 1) rfl)) (hts (.instanceMethod objectInit) (List.mem_of_getElem? (i := 2) rfl)) (hts (.code objectInit ⟨#[0xb1]⟩ 1 none) (List.mem_of_getElem? (i := 3) rfl)) rfl (by rw [hml]; exact hl.1) rfl dX4_init_1 (Nat.le_of_ble_eq_true rfl) (Nat.le_of_ble_eq_true rfl) ?_
  refine W.eq (g2 := F0 m 4 ls []) rfl ?_
  refine lv_aload_n hx hb dX4_init_4 rfl (lv_at hl 0 rfl) ?_
  refine lv_aload_n hx hb dX4_init_5 rfl (lv_at hl 1 rfl) ?_
  refine va_putF (D := D) (ci := 4) (v := .ref a_t) (ty := .object "LineCites$Tape") (C := RX4) (T := TX4) (N := 7) hx hb hts (fun _ h => List.mem_cons_of_mem _ (List.mem_append_right _ h)) tyX4 tyX4_ok nmX4 hown hK hP hD hS 0 rfl rfl 0 (by decide) (hts (.fieldLink RX4 9 "LineCites$Reader" "tape" "LLineCites$Tape;") (List.mem_of_getElem? (i := 4) rfl)) (fun _ h9 => h9) rfl hin rfl (by decide +kernel) rfl rfl (Nat.le_of_ble_eq_true rfl) dX4_init_6 (fun H locs hP hD hS => ?_)
  have hP : va_P D vwCl [(h0, .inr (4, [.ref a_t, .null, .int 0, .int 0, .int 0, .int 0, .int 0]))] H := hP
  have hD : va_D A [(h0, .inr (4, [.ref a_t, .null, .int 0, .int 0, .int 0, .int 0, .int 0]))] := hD
  have hK : va_K D vwCl [] s := hK
  refine lv_aload_n hx hb dX4_init_9 rfl (lv_at hl 0 rfl) ?_
  refine lv_aload_n hx hb dX4_init_10 rfl (lv_at hl 2 rfl) ?_
  refine va_putF (D := D) (ci := 4) (v := .ref a_d) (ty := .object "LineCites$Work") (C := RX4) (T := TX4) (N := 7) hx hb hts (fun _ h => List.mem_cons_of_mem _ (List.mem_append_right _ h)) tyX4 tyX4_ok nmX4 hown hK hP hD hS 0 rfl rfl 1 (by decide) (hts (.fieldLink RX4 15 "LineCites$Reader" "draft" "LLineCites$Work;") (List.mem_of_getElem? (i := 5) rfl)) (fun _ h9 => h9) rfl hin rfl (by decide +kernel) rfl rfl (Nat.le_of_ble_eq_true rfl) dX4_init_11 (fun H locs hP hD hS => ?_)
  have hP : va_P D vwCl [(h0, .inr (4, [.ref a_t, .ref a_d, .int 0, .int 0, .int 0, .int 0, .int 0]))] H := hP
  have hD : va_D A [(h0, .inr (4, [.ref a_t, .ref a_d, .int 0, .int 0, .int 0, .int 0, .int 0]))] := hD
  have hK : va_K D vwCl [] s := hK
  have hP9 := hP.sub (ws' := [(h0, .inr (4, [.ref a_t, .ref a_d, .int 0, .int 0, .int 0, .int 0, .int 0]))]) [0] rfl
  have hD9 := hD.sub (ws' := [(h0, .inr (4, [.ref a_t, .ref a_d, .int 0, .int 0, .int 0, .int 0, .int 0]))]) [0] (by decide) rfl
  have hK9 := hK.sub (tys' := []) [] rfl
  refine W.widen (k := 0) (n := 0) (Nat.le_of_ble_eq_true rfl) (Nat.le_of_ble_eq_true rfl) ?_
  exact W.vret hx hb hr (fun t ht hW => ⟨⟨(), rfl, trivial, by rw [ht]; exact hP9, va_K.moved hW.alike hK9, hD9⟩, hS.F ht⟩) hS.2.2 dX4_init_14
def w_X9_init : List Cond := .code yX9_init cX9_init 1 none :: ([.methodLink RX9 1 objectInit, .instanceMethod objectInit, .code objectInit ⟨#[0xb1]⟩ 1 none, .classLink RX9 7 RX7, .instantiable RX7 3, .initialized RX7, .instanceMethod yX7_init, .code yX7_init cX7_init 1 none, .methodLink RX7 3 objectInit, .arrayClass .byte, .fieldLink RX7 9 "LineCites$Tape" "bytes" "[B", .fieldLink RX9 10 "LineCites" "tape" "LLineCites$Tape;", .classLink RX9 16 RX8, .instantiable RX8 8, .initialized RX8, .instanceMethod yX8_init, .code yX8_init cX8_init 1 none, .methodLink RX8 3 objectInit, .arrayClass .int, .fieldLink RX8 9 "LineCites$Work" "stretchCounts" "[I", .fieldLink RX8 15 "LineCites$Work" "stretchParts" "[I", .fieldLink RX8 18 "LineCites$Work" "citedParts" "[I", .fieldLink RX8 21 "LineCites$Work" "seenNumbers" "[I", .fieldLink RX8 24 "LineCites$Work" "seenLines" "[I", .fieldLink RX9 19 "LineCites" "now" "LLineCites$Work;", .fieldLink RX9 23 "LineCites" "draft" "LLineCites$Work;", .classLink RX9 26 RX4, .instantiable RX4 7, .initialized RX4, .methodLink RX9 28 yX4_init, .instanceMethod yX4_init, .code yX4_init cX4_init 3 none, .methodLink RX4 3 objectInit, .fieldLink RX4 9 "LineCites$Reader" "tape" "LLineCites$Tape;", .fieldLink RX4 15 "LineCites$Reader" "draft" "LLineCites$Work;", .fieldLink RX9 31 "LineCites" "reader" "LLineCites$Reader;", .classLink RX9 35 RX0, .instantiable RX0 3, .initialized RX0, .instanceMethod yX0_init, .code yX0_init cX0_init 1 none, .methodLink RX0 3 objectInit, .classLink RX0 9 RX8, .fieldLink RX0 11 "LineCites$Acts" "ring" "[LLineCites$Work;", .fieldLink RX9 38 "LineCites" "acts" "LLineCites$Acts;", .classLink RX9 42 RX1, .fieldLink RX9 44 "LineCites" "images" "[LLineCites$Image;", .classLink RX9 48 RX3, .instantiable RX3 3, .initialized RX3, .instanceMethod yX3_init, .code yX3_init cX3_init 1 none, .methodLink RX3 3 objectInit, .fieldLink RX3 9 "LineCites$Numbering" "lows" "[I", .fieldLink RX3 15 "LineCites$Numbering" "highs" "[I", .fieldLink RX9 51 "LineCites" "one" "LLineCites$Numbering;", .fieldLink RX9 55 "LineCites" "other" "LLineCites$Numbering;", .fieldLink RX9 58 "LineCites" "third" "LLineCites$Numbering;", .classLink RX9 61 RX6, .instantiable RX6 8, .initialized RX6, .instanceMethod yX6_init, .code yX6_init cX6_init 1 none, .methodLink RX6 3 objectInit, .fieldLink RX6 9 "LineCites$Spans" "sizes" "[I", .fieldLink RX6 15 "LineCites$Spans" "leasts" "[I", .fieldLink RX6 18 "LineCites$Spans" "greatests" "[I", .fieldLink RX9 64 "LineCites" "spans" "LLineCites$Spans;", .fieldLink RX9 68 "LineCites" "back" "LLineCites$Spans;", .classLink RX9 71 RX5, .instantiable RX5 3, .initialized RX5, .instanceMethod yX5_init, .code yX5_init cX5_init 1 none, .methodLink RX5 3 objectInit, .fieldLink RX9 74 "LineCites" "span" "LLineCites$Span;", .classLink RX9 78 RX2, .instantiable RX2 3, .initialized RX2, .instanceMethod yX2_init, .code yX2_init cX2_init 1 none, .methodLink RX2 3 objectInit, .fieldLink RX2 9 "LineCites$NumberSet" "marks" "[I", .classLink RX2 15 RX5, .fieldLink RX2 18 "LineCites$NumberSet" "span" "LLineCites$Span;", .fieldLink RX2 22 "LineCites$NumberSet" "round" "I", .fieldLink RX9 81 "LineCites" "middle" "LLineCites$NumberSet;", .fieldLink RX9 85 "LineCites" "reached" "LLineCites$NumberSet;"] ++ wsX70 ++ wsX90 ++ wsX80 ++ wsX40 ++ wsX00 ++ wsX30 ++ wsX60 ++ wsX50 ++ wsX20)
set_option maxRecDepth 20000 in
theorem g_X9_init_X7_init : GoodIn w_X9_init w_X7_init := goodIn_r _ [8, 9, 2, 3, 10, 11, 89, 90, 91] rfl (by decide +kernel)
set_option maxRecDepth 20000 in
theorem g_X9_init_X8_init : GoodIn w_X9_init w_X8_init := goodIn_r _ [17, 18, 2, 3, 19, 20, 21, 22, 23, 24, 106, 107, 108, 109, 110, 111, 112, 113] rfl (by decide +kernel)
set_option maxRecDepth 20000 in
theorem g_X9_init_X4_init : GoodIn w_X9_init w_X4_init := goodIn_r _ [32, 33, 2, 3, 34, 35, 114, 115, 116, 117, 118, 119, 120] rfl (by decide +kernel)
set_option maxRecDepth 20000 in
theorem g_X9_init_X0_init : GoodIn w_X9_init w_X0_init := goodIn_r _ [41, 42, 2, 3, 43, 44, 121, 122, 123] rfl (by decide +kernel)
set_option maxRecDepth 20000 in
theorem g_X9_init_X3_init : GoodIn w_X9_init w_X3_init := goodIn_r _ [52, 53, 2, 3, 19, 54, 55, 124, 125, 126] rfl (by decide +kernel)
set_option maxRecDepth 20000 in
theorem g_X9_init_X6_init : GoodIn w_X9_init w_X6_init := goodIn_r _ [63, 64, 2, 3, 19, 65, 66, 67, 127, 128, 129, 130, 131, 132, 133, 134] rfl (by decide +kernel)
set_option maxRecDepth 20000 in
theorem g_X9_init_X5_init : GoodIn w_X9_init w_X5_init := goodIn_r _ [74, 75, 2, 3] rfl (by decide +kernel)
set_option maxRecDepth 20000 in
theorem g_X9_init_X2_init : GoodIn w_X9_init w_X2_init := goodIn_r _ [81, 82, 2, 3, 19, 83, 84, 71, 72, 73, 74, 75, 85, 86, 138, 139, 140, 135, 136, 137] rfl (by decide +kernel)
set_option maxHeartbeats 4000000 in
set_option maxRecDepth 100000 in
theorem c_X9_init (l : Launch) (D : va_G) (h0 : Nat) (sz : Nat) : Met l yX9_init w_X9_init ({ frames := 3, cells := 42, slots := 9843, locals := 52 }) (va_Pc [.ref h0] (fun U => U.heap.size = sz ∧ va_P D vwCl [(h0, .inr (9, [.null, .null, .null, .null, .null, .null, .null, .null, .null, .null, .null, .null, .null, .null]))] U.heap ∧ va_K D vwCl [] U ∧ va_D (fun _ => True) [(h0, .inr (9, [.null, .null, .null, .null, .null, .null, .null, .null, .null, .null, .null, .null, .null, .null]))] ∧ va_Nw (.methodLinkNest RX9 9 yX7_init "LineCites") U ∧ va_Nw (.methodLinkNest RX9 18 yX8_init "LineCites") U ∧ va_Nw (.methodLinkNest RX9 37 yX0_init "LineCites") U ∧ va_Nw (.methodLinkNest RX9 50 yX3_init "LineCites") U ∧ va_Nw (.methodLinkNest RX9 63 yX6_init "LineCites") U ∧ va_Nw (.methodLinkNest RX9 73 yX5_init "LineCites") U ∧ va_Nw (.methodLinkNest RX9 80 yX2_init "LineCites") U ∧ va_Nw (.methodLinkNest RX2 17 yX5_init "LineCites") U ∧ va_AO RX8 U ∧ va_AO RX1 U)) (va_Qv (fun (_ : Unit) => True) (fun (_ : Unit) t => ∃ (a_tape : Nat) (a_now : Nat) (a_draft : Nat) (a_reader : Nat) (a_acts : Nat) (a_images : Nat) (a_one : Nat) (a_other : Nat) (a_third : Nat) (a_spans : Nat) (a_back : Nat) (a_span : Nat) (a_middle : Nat) (a_reached : Nat) (y_b : Nat) (y_sc : Nat) (y_sp : Nat) (y_cp : Nat) (y_sn : Nat) (y_sl : Nat) (a_ring : Nat) (k_b : ClassId) (k_c : ClassId) (k_i : ClassId), va_P D vwCl [(h0, .inr (9, [.ref a_tape, .ref a_now, .ref a_draft, .ref a_reader, .ref a_acts, .ref a_images, .ref a_one, .ref a_other, .ref a_third, .ref a_spans, .ref a_back, .ref a_span, .ref a_middle, .ref a_reached])), (a_tape, .inr (7, [.ref y_b, .int 0, .int 0])), (y_b, .inl (k_b, 200, .inl (fun _ => 0))), (a_now, .inr (8, [.ref y_sc, .ref y_sp, .ref y_cp, .ref y_sn, .ref y_sl, .int 0, .int 0, .int 0])), (y_cp, .inl (k_c, 32, .inl (fun _ => 0))), (a_reader, .inr (4, [.ref a_tape, .ref a_draft, .int 0, .int 0, .int 0, .int 0, .int 0])), (a_acts, .inr (0, [.ref a_ring, .int 0, .int 0])), (a_images, .inl (k_i, 2, .inr (.inr (.inr (.inr (fun _ => none))))))] t.heap ∧ va_K D vwCl [(k_b, .byte), (k_c, .int), (k_i, .object RX1)] t ∧ va_D (va_A [(h0, .inr (9, [.null, .null, .null, .null, .null, .null, .null, .null, .null, .null, .null, .null, .null, .null]))] sz) [(h0, .inr (9, [.ref a_tape, .ref a_now, .ref a_draft, .ref a_reader, .ref a_acts, .ref a_images, .ref a_one, .ref a_other, .ref a_third, .ref a_spans, .ref a_back, .ref a_span, .ref a_middle, .ref a_reached])), (a_tape, .inr (7, [.ref y_b, .int 0, .int 0])), (y_b, .inl (k_b, 200, .inl (fun _ => 0))), (a_now, .inr (8, [.ref y_sc, .ref y_sp, .ref y_cp, .ref y_sn, .ref y_sl, .int 0, .int 0, .int 0])), (y_cp, .inl (k_c, 32, .inl (fun _ => 0))), (a_reader, .inr (4, [.ref a_tape, .ref a_draft, .int 0, .int 0, .int 0, .int 0, .int 0])), (a_acts, .inr (0, [.ref a_ring, .int 0, .int 0])), (a_images, .inl (k_i, 2, .inr (.inr (.inr (.inr (fun _ => none))))))]) (va_A [(h0, .inr (9, [.null, .null, .null, .null, .null, .null, .null, .null, .null, .null, .null, .null, .null, .null]))] sz)) 42 9843 (va_A [(h0, .inr (9, [.null, .null, .null, .null, .null, .null, .null, .null, .null, .null, .null, .null, .null, .null]))] sz) := by
  refine Met.ofW (cc := cX9_init) (maxL := 1) (ret := none) (by decide) rfl ?_
  intro p e s m args below meth c s₁ B hml hv
  obtain ⟨rfl, hsz, hP, hK, hD0, hN9_9, hN9_18, hN9_37, hN9_50, hN9_63, hN9_73, hN9_80, hN2_17, hAO8, hAO1⟩ := hv
  have hx := B.exec
  have hb := B.bytes
  have hr := B.returns
  have hts := atoms_spec (ws := w_X9_init) B.pre
  have hown : s.vm.findClass RX9 = some m.cls := findClass_of_methodNamed B.named
  have hlocks := B.notSynchronized
  have hin : meth.name = "<init>" := (name_of_methodNamed B.named B.method).1
  subst hsz
  have hD := hD0.self (sz := s.heap.size)
  generalize hAe : va_A [(h0, .inr (9, [.null, .null, .null, .null, .null, .null, .null, .null, .null, .null, .null, .null, .null, .null]))] s.heap.size = A at hD ⊢
  have hA : ∀ q : Nat, s.heap.size ≤ q → A q := fun q h => by rw [← hAe]; exact Or.inr h
  have hS : va_S A s.heap s.heap [] := va_S.rf
  have hP : va_P D vwCl [(h0, .inr (9, [.null, .null, .null, .null, .null, .null, .null, .null, .null, .null, .null, .null, .null, .null]))] s.heap := hP
  have hl := lv_entry ([.ref h0]) (n := 1) (Nat.le_of_ble_eq_true rfl)
  rw [lg_entry_eq]
  generalize (lg_sl ([.ref h0]) ++ List.replicate (1 - (lg_sl ([.ref h0])).length) Slot.unset).toArray = ls at hl ⊢
  have hl : lv_has ls 1 [(0, .ref h0)] := hl
  obtain ⟨H, hHe⟩ : ∃ H : Heap, H = s.heap := ⟨_, rfl⟩
  rw [← hHe] at hP
  have hS : va_S A s.heap H [] := by rw [hHe]; exact hS
  refine pw_heap hHe ?_
  refine lv_aload_n hx hb dX9_init_0 rfl (lv_at hl 0 rfl) ?_
  refine W.objInit hx hb hown (hts (.methodLink RX9 1 objectInit) (List.mem_of_getElem? (i := 1) rfl)) (hts (.instanceMethod objectInit) (List.mem_of_getElem? (i := 2) rfl)) (hts (.code objectInit ⟨#[0xb1]⟩ 1 none) (List.mem_of_getElem? (i := 3) rfl)) rfl (by rw [hml]; exact hl.1) rfl dX9_init_1 (Nat.le_of_ble_eq_true rfl) (Nat.le_of_ble_eq_true rfl) ?_
  refine W.eq (g2 := F0 m 4 ls []) rfl ?_
  refine lv_aload_n hx hb dX9_init_4 rfl (lv_at hl 0 rfl) ?_
  refine va_new (ci := 7) (fs := [.null, .int 0, .int 0]) (C := RX7) (T := TX7) (N := 3) hx hb hts (fun _ h => List.mem_cons_of_mem _ (List.mem_append_left _ (List.mem_append_left _ (List.mem_append_left _ (List.mem_append_left _ (List.mem_append_left _ (List.mem_append_left _ (List.mem_append_left _ (List.mem_append_left _ (List.mem_append_right _ h)))))))))) tyX7 tyX7_ok hown (hts (.classLink RX9 7 RX7) (List.mem_of_getElem? (i := 4) rfl)) (hts (.instantiable RX7 3) (List.mem_of_getElem? (i := 5) rfl)) (hts (.initialized RX7) (List.mem_of_getElem? (i := 6) rfl)) hK hP hD hS hA rfl (fun j hj => by rcases (show j = 0 ∨ j = 1 ∨ j = 2 by omega) with rfl | rfl | rfl <;> rfl) (Nat.le_of_ble_eq_true rfl) (Nat.le_of_ble_eq_true rfl) dX9_init_5 (fun q1 H hP hD hS => ?_)
  have hP : va_P D vwCl [(h0, .inr (9, [.null, .null, .null, .null, .null, .null, .null, .null, .null, .null, .null, .null, .null, .null])), (q1, .inr (7, [.null, .int 0, .int 0]))] H := hP
  have hD : va_D A [(h0, .inr (9, [.null, .null, .null, .null, .null, .null, .null, .null, .null, .null, .null, .null, .null, .null])), (q1, .inr (7, [.null, .int 0, .int 0]))] := hD
  have hK : va_K D vwCl [] s := hK
  refine W.widen (k := 1) (n := 3) (Nat.le_of_ble_eq_true rfl) (Nat.le_of_ble_eq_true rfl) ?_
  refine lv_dup hx hb dX9_init_8 rfl ?_
  have hPc := hP.sub (ws' := [(q1, .inr (7, [.null, .int 0, .int 0]))]) [1] rfl
  have hKc := hK.sub (tys' := []) [] rfl
  have hDc := hD.sub (ws' := [(q1, .inr (7, [.null, .int 0, .int 0]))]) [1] (by decide) rfl
  have hFc := va_free (wc := [(q1, .inr (7, [.null, .int 0, .int 0]))]) hD hS hA [1] rfl
  refine va_callv (va_runIN (As := []) (rest := [.ref q1, .ref h0]) ⟨hx, hb, hml, hown, hts⟩ (c_X7_init l D q1 H.size) ⟨va_cnB 0 hts g_X9_init_X7_init rfl rfl rfl hN9_9 (hts (.initialized RX7) (List.mem_of_getElem? (i := 6) rfl)) (by decide +kernel) ⟨Nat.le_of_ble_eq_true rfl, Nat.le_of_ble_eq_true rfl⟩, rfl, (hts (.instanceMethod yX7_init) (List.mem_of_getElem? (i := 7) rfl))⟩ ⟨fun a U g mk q => by obtain ⟨q0, q1, qP, qK, qD⟩ := q; exact ⟨q0, q1, qP, va_K.moved (u := U) (U := U.calling g mk a) (Vm.Alike.refl U.vm) qK, qD⟩, fun U hU hW => ⟨rfl, by rw [hU], by rw [hU]; exact hPc, va_K.moved hW.alike hKc, hDc.weaken (fun _ _ _ _ => trivial)⟩⟩ rfl rfl hl.1 rfl (lv_room (Nat.le_of_ble_eq_true rfl)) dX9_init_9 ⟨Nat.le_of_ble_eq_true rfl, Nat.le_of_ble_eq_true rfl⟩) hS (fun q _ h => hFc q h) hFc (fun u t H1 locs ht hvm hw hB hz1 hk1 hS => ?_)
  obtain ⟨y3, y4, hP1, hK1, hD1⟩ := hB
  rw [ht] at hP1
  have hK1 := va_K.moved hvm.symm hK1
  obtain ⟨hP, hD⟩ := va_join (wr := [(h0, .inr (9, [.null, .null, .null, .null, .null, .null, .null, .null, .null, .null, .null, .null, .null, .null]))]) (w1 := [(q1, .inr (7, [.ref y3, .int 0, .int 0])), (y3, .inl (y4, 200, .inl (fun _ => 0)))]) hP hD [1] [0] rfl rfl (by decide) (by decide) hk1 hFc hP1 hD1
  have hK := (hK.sub (tys' := []) [] rfl).app hK1
  generalize H1 = H at hP hS ⊢
  have hP : va_P D vwCl [(h0, .inr (9, [.null, .null, .null, .null, .null, .null, .null, .null, .null, .null, .null, .null, .null, .null])), (q1, .inr (7, [.ref y3, .int 0, .int 0])), (y3, .inl (y4, 200, .inl (fun _ => 0)))] H := hP
  have hD : va_D A [(h0, .inr (9, [.null, .null, .null, .null, .null, .null, .null, .null, .null, .null, .null, .null, .null, .null])), (q1, .inr (7, [.ref y3, .int 0, .int 0])), (y3, .inl (y4, 200, .inl (fun _ => 0)))] := hD
  have hK : va_K D vwCl [(y4, .byte)] s := hK
  refine W.widen (k := 2) (n := 203) (Nat.le_of_ble_eq_true rfl) (Nat.le_of_ble_eq_true rfl) ?_
  refine va_putF (D := D) (ci := 9) (v := .ref q1) (ty := .object "LineCites$Tape") (C := RX9) (T := TX9) (N := 14) hx hb hts (fun _ h => List.mem_cons_of_mem _ (List.mem_append_left _ (List.mem_append_left _ (List.mem_append_left _ (List.mem_append_left _ (List.mem_append_left _ (List.mem_append_left _ (List.mem_append_left _ (List.mem_append_right _ h))))))))) tyX9 tyX9_ok nmX9 hown hK hP hD hS 0 rfl rfl 0 (by decide) (hts (.fieldLink RX9 10 "LineCites" "tape" "LLineCites$Tape;") (List.mem_of_getElem? (i := 12) rfl)) (fun _ h9 => h9) rfl hin rfl (by decide +kernel) rfl rfl (Nat.le_of_ble_eq_true rfl) dX9_init_12 (fun H locs hP hD hS => ?_)
  have hP : va_P D vwCl [(h0, .inr (9, [.ref q1, .null, .null, .null, .null, .null, .null, .null, .null, .null, .null, .null, .null, .null])), (q1, .inr (7, [.ref y3, .int 0, .int 0])), (y3, .inl (y4, 200, .inl (fun _ => 0)))] H := hP
  have hD : va_D A [(h0, .inr (9, [.ref q1, .null, .null, .null, .null, .null, .null, .null, .null, .null, .null, .null, .null, .null])), (q1, .inr (7, [.ref y3, .int 0, .int 0])), (y3, .inl (y4, 200, .inl (fun _ => 0)))] := hD
  have hK : va_K D vwCl [(y4, .byte)] s := hK
  refine lv_aload_n hx hb dX9_init_15 rfl (lv_at hl 0 rfl) ?_
  refine va_new (ci := 8) (fs := [.null, .null, .null, .null, .null, .int 0, .int 0, .int 0]) (C := RX8) (T := TX8) (N := 8) hx hb hts (fun _ h => List.mem_cons_of_mem _ (List.mem_append_left _ (List.mem_append_left _ (List.mem_append_left _ (List.mem_append_left _ (List.mem_append_left _ (List.mem_append_left _ (List.mem_append_right _ h)))))))) tyX8 tyX8_ok hown (hts (.classLink RX9 16 RX8) (List.mem_of_getElem? (i := 13) rfl)) (hts (.instantiable RX8 8) (List.mem_of_getElem? (i := 14) rfl)) (hts (.initialized RX8) (List.mem_of_getElem? (i := 15) rfl)) hK hP hD hS hA rfl (fun j hj => by rcases (show j = 0 ∨ j = 1 ∨ j = 2 ∨ j = 3 ∨ j = 4 ∨ j = 5 ∨ j = 6 ∨ j = 7 by omega) with rfl | rfl | rfl | rfl | rfl | rfl | rfl | rfl <;> rfl) (Nat.le_of_ble_eq_true rfl) (Nat.le_of_ble_eq_true rfl) dX9_init_16 (fun q5 H hP hD hS => ?_)
  have hP : va_P D vwCl [(h0, .inr (9, [.ref q1, .null, .null, .null, .null, .null, .null, .null, .null, .null, .null, .null, .null, .null])), (q1, .inr (7, [.ref y3, .int 0, .int 0])), (y3, .inl (y4, 200, .inl (fun _ => 0))), (q5, .inr (8, [.null, .null, .null, .null, .null, .int 0, .int 0, .int 0]))] H := hP
  have hD : va_D A [(h0, .inr (9, [.ref q1, .null, .null, .null, .null, .null, .null, .null, .null, .null, .null, .null, .null, .null])), (q1, .inr (7, [.ref y3, .int 0, .int 0])), (y3, .inl (y4, 200, .inl (fun _ => 0))), (q5, .inr (8, [.null, .null, .null, .null, .null, .int 0, .int 0, .int 0]))] := hD
  have hK : va_K D vwCl [(y4, .byte)] s := hK
  refine W.widen (k := 3) (n := 211) (Nat.le_of_ble_eq_true rfl) (Nat.le_of_ble_eq_true rfl) ?_
  refine lv_dup hx hb dX9_init_19 rfl ?_
  have hPc := hP.sub (ws' := [(q5, .inr (8, [.null, .null, .null, .null, .null, .int 0, .int 0, .int 0]))]) [3] rfl
  have hKc := hK.sub (tys' := []) [] rfl
  have hDc := hD.sub (ws' := [(q5, .inr (8, [.null, .null, .null, .null, .null, .int 0, .int 0, .int 0]))]) [3] (by decide) rfl
  have hFc := va_free (wc := [(q5, .inr (8, [.null, .null, .null, .null, .null, .int 0, .int 0, .int 0]))]) hD hS hA [3] rfl
  refine va_callv (va_runIN (As := []) (rest := [.ref q5, .ref h0]) ⟨hx, hb, hml, hown, hts⟩ (c_X8_init l D q5 H.size) ⟨va_cnB 0 hts g_X9_init_X8_init rfl rfl rfl hN9_18 (hts (.initialized RX8) (List.mem_of_getElem? (i := 15) rfl)) (by decide +kernel) ⟨Nat.le_of_ble_eq_true rfl, Nat.le_of_ble_eq_true rfl⟩, rfl, (hts (.instanceMethod yX8_init) (List.mem_of_getElem? (i := 16) rfl))⟩ ⟨fun a U g mk q => by obtain ⟨q0, q1, qP, qK, qD⟩ := q; exact ⟨q0, q1, qP, va_K.moved (u := U) (U := U.calling g mk a) (Vm.Alike.refl U.vm) qK, qD⟩, fun U hU hW => ⟨rfl, by rw [hU], by rw [hU]; exact hPc, va_K.moved hW.alike hKc, hDc.weaken (fun _ _ _ _ => trivial)⟩⟩ rfl rfl hl.1 rfl (lv_room (Nat.le_of_ble_eq_true rfl)) dX9_init_20 ⟨Nat.le_of_ble_eq_true rfl, Nat.le_of_ble_eq_true rfl⟩) hS (fun q _ h => hFc q h) hFc (fun u t H1 locs ht hvm hw hB hz1 hk1 hS => ?_)
  obtain ⟨y7, y8, y9, y10, y11, y12, hP1, hK1, hD1⟩ := hB
  rw [ht] at hP1
  have hK1 := va_K.moved hvm.symm hK1
  obtain ⟨hP, hD⟩ := va_join (wr := [(h0, .inr (9, [.ref q1, .null, .null, .null, .null, .null, .null, .null, .null, .null, .null, .null, .null, .null])), (q1, .inr (7, [.ref y3, .int 0, .int 0])), (y3, .inl (y4, 200, .inl (fun _ => 0)))]) (w1 := [(q5, .inr (8, [.ref y7, .ref y8, .ref y9, .ref y10, .ref y11, .int 0, .int 0, .int 0])), (y9, .inl (y12, 32, .inl (fun _ => 0)))]) hP hD [3] [0, 1, 2] rfl rfl (by decide) (by decide) hk1 hFc hP1 hD1
  have hK := (hK.sub (tys' := [(y4, .byte)]) [0] rfl).app hK1
  generalize H1 = H at hP hS ⊢
  have hP : va_P D vwCl [(h0, .inr (9, [.ref q1, .null, .null, .null, .null, .null, .null, .null, .null, .null, .null, .null, .null, .null])), (q1, .inr (7, [.ref y3, .int 0, .int 0])), (y3, .inl (y4, 200, .inl (fun _ => 0))), (q5, .inr (8, [.ref y7, .ref y8, .ref y9, .ref y10, .ref y11, .int 0, .int 0, .int 0])), (y9, .inl (y12, 32, .inl (fun _ => 0)))] H := hP
  have hD : va_D A [(h0, .inr (9, [.ref q1, .null, .null, .null, .null, .null, .null, .null, .null, .null, .null, .null, .null, .null])), (q1, .inr (7, [.ref y3, .int 0, .int 0])), (y3, .inl (y4, 200, .inl (fun _ => 0))), (q5, .inr (8, [.ref y7, .ref y8, .ref y9, .ref y10, .ref y11, .int 0, .int 0, .int 0])), (y9, .inl (y12, 32, .inl (fun _ => 0)))] := hD
  have hK : va_K D vwCl [(y4, .byte), (y12, .int)] s := hK
  refine W.widen (k := 8) (n := 392) (Nat.le_of_ble_eq_true rfl) (Nat.le_of_ble_eq_true rfl) ?_
  refine va_putF (D := D) (ci := 9) (v := .ref q5) (ty := .object "LineCites$Work") (C := RX9) (T := TX9) (N := 14) hx hb hts (fun _ h => List.mem_cons_of_mem _ (List.mem_append_left _ (List.mem_append_left _ (List.mem_append_left _ (List.mem_append_left _ (List.mem_append_left _ (List.mem_append_left _ (List.mem_append_left _ (List.mem_append_right _ h))))))))) tyX9 tyX9_ok nmX9 hown hK hP hD hS 0 rfl rfl 1 (by decide) (hts (.fieldLink RX9 19 "LineCites" "now" "LLineCites$Work;") (List.mem_of_getElem? (i := 25) rfl)) (fun _ h9 => h9) rfl hin rfl (by decide +kernel) rfl rfl (Nat.le_of_ble_eq_true rfl) dX9_init_23 (fun H locs hP hD hS => ?_)
  have hP : va_P D vwCl [(h0, .inr (9, [.ref q1, .ref q5, .null, .null, .null, .null, .null, .null, .null, .null, .null, .null, .null, .null])), (q1, .inr (7, [.ref y3, .int 0, .int 0])), (y3, .inl (y4, 200, .inl (fun _ => 0))), (q5, .inr (8, [.ref y7, .ref y8, .ref y9, .ref y10, .ref y11, .int 0, .int 0, .int 0])), (y9, .inl (y12, 32, .inl (fun _ => 0)))] H := hP
  have hD : va_D A [(h0, .inr (9, [.ref q1, .ref q5, .null, .null, .null, .null, .null, .null, .null, .null, .null, .null, .null, .null])), (q1, .inr (7, [.ref y3, .int 0, .int 0])), (y3, .inl (y4, 200, .inl (fun _ => 0))), (q5, .inr (8, [.ref y7, .ref y8, .ref y9, .ref y10, .ref y11, .int 0, .int 0, .int 0])), (y9, .inl (y12, 32, .inl (fun _ => 0)))] := hD
  have hK : va_K D vwCl [(y4, .byte), (y12, .int)] s := hK
  refine lv_aload_n hx hb dX9_init_26 rfl (lv_at hl 0 rfl) ?_
  refine va_new (ci := 8) (fs := [.null, .null, .null, .null, .null, .int 0, .int 0, .int 0]) (C := RX8) (T := TX8) (N := 8) hx hb hts (fun _ h => List.mem_cons_of_mem _ (List.mem_append_left _ (List.mem_append_left _ (List.mem_append_left _ (List.mem_append_left _ (List.mem_append_left _ (List.mem_append_left _ (List.mem_append_right _ h)))))))) tyX8 tyX8_ok hown (hts (.classLink RX9 16 RX8) (List.mem_of_getElem? (i := 13) rfl)) (hts (.instantiable RX8 8) (List.mem_of_getElem? (i := 14) rfl)) (hts (.initialized RX8) (List.mem_of_getElem? (i := 15) rfl)) hK hP hD hS hA rfl (fun j hj => by rcases (show j = 0 ∨ j = 1 ∨ j = 2 ∨ j = 3 ∨ j = 4 ∨ j = 5 ∨ j = 6 ∨ j = 7 by omega) with rfl | rfl | rfl | rfl | rfl | rfl | rfl | rfl <;> rfl) (Nat.le_of_ble_eq_true rfl) (Nat.le_of_ble_eq_true rfl) dX9_init_27 (fun q13 H hP hD hS => ?_)
  have hP : va_P D vwCl [(h0, .inr (9, [.ref q1, .ref q5, .null, .null, .null, .null, .null, .null, .null, .null, .null, .null, .null, .null])), (q1, .inr (7, [.ref y3, .int 0, .int 0])), (y3, .inl (y4, 200, .inl (fun _ => 0))), (q5, .inr (8, [.ref y7, .ref y8, .ref y9, .ref y10, .ref y11, .int 0, .int 0, .int 0])), (y9, .inl (y12, 32, .inl (fun _ => 0))), (q13, .inr (8, [.null, .null, .null, .null, .null, .int 0, .int 0, .int 0]))] H := hP
  have hD : va_D A [(h0, .inr (9, [.ref q1, .ref q5, .null, .null, .null, .null, .null, .null, .null, .null, .null, .null, .null, .null])), (q1, .inr (7, [.ref y3, .int 0, .int 0])), (y3, .inl (y4, 200, .inl (fun _ => 0))), (q5, .inr (8, [.ref y7, .ref y8, .ref y9, .ref y10, .ref y11, .int 0, .int 0, .int 0])), (y9, .inl (y12, 32, .inl (fun _ => 0))), (q13, .inr (8, [.null, .null, .null, .null, .null, .int 0, .int 0, .int 0]))] := hD
  have hK : va_K D vwCl [(y4, .byte), (y12, .int)] s := hK
  refine W.widen (k := 9) (n := 400) (Nat.le_of_ble_eq_true rfl) (Nat.le_of_ble_eq_true rfl) ?_
  refine lv_dup hx hb dX9_init_30 rfl ?_
  have hPc := hP.sub (ws' := [(q13, .inr (8, [.null, .null, .null, .null, .null, .int 0, .int 0, .int 0]))]) [5] rfl
  have hKc := hK.sub (tys' := []) [] rfl
  have hDc := hD.sub (ws' := [(q13, .inr (8, [.null, .null, .null, .null, .null, .int 0, .int 0, .int 0]))]) [5] (by decide) rfl
  have hFc := va_free (wc := [(q13, .inr (8, [.null, .null, .null, .null, .null, .int 0, .int 0, .int 0]))]) hD hS hA [5] rfl
  refine va_callv (va_runIN (As := []) (rest := [.ref q13, .ref h0]) ⟨hx, hb, hml, hown, hts⟩ (c_X8_init l D q13 H.size) ⟨va_cnB 0 hts g_X9_init_X8_init rfl rfl rfl hN9_18 (hts (.initialized RX8) (List.mem_of_getElem? (i := 15) rfl)) (by decide +kernel) ⟨Nat.le_of_ble_eq_true rfl, Nat.le_of_ble_eq_true rfl⟩, rfl, (hts (.instanceMethod yX8_init) (List.mem_of_getElem? (i := 16) rfl))⟩ ⟨fun a U g mk q => by obtain ⟨q0, q1, qP, qK, qD⟩ := q; exact ⟨q0, q1, qP, va_K.moved (u := U) (U := U.calling g mk a) (Vm.Alike.refl U.vm) qK, qD⟩, fun U hU hW => ⟨rfl, by rw [hU], by rw [hU]; exact hPc, va_K.moved hW.alike hKc, hDc.weaken (fun _ _ _ _ => trivial)⟩⟩ rfl rfl hl.1 rfl (lv_room (Nat.le_of_ble_eq_true rfl)) dX9_init_31 ⟨Nat.le_of_ble_eq_true rfl, Nat.le_of_ble_eq_true rfl⟩) hS (fun q _ h => hFc q h) hFc (fun u t H1 locs ht hvm hw hB hz1 hk1 hS => ?_)
  obtain ⟨y15, y16, y17, y18, y19, y20, hP1, hK1, hD1⟩ := hB
  rw [ht] at hP1
  have hK1 := va_K.moved hvm.symm hK1
  obtain ⟨hP, hD⟩ := va_join (wr := [(h0, .inr (9, [.ref q1, .ref q5, .null, .null, .null, .null, .null, .null, .null, .null, .null, .null, .null, .null])), (q1, .inr (7, [.ref y3, .int 0, .int 0])), (y3, .inl (y4, 200, .inl (fun _ => 0))), (q5, .inr (8, [.ref y7, .ref y8, .ref y9, .ref y10, .ref y11, .int 0, .int 0, .int 0])), (y9, .inl (y12, 32, .inl (fun _ => 0)))]) (w1 := [(q13, .inr (8, [.ref y15, .ref y16, .ref y17, .ref y18, .ref y19, .int 0, .int 0, .int 0])), (y17, .inl (y20, 32, .inl (fun _ => 0)))]) hP hD [5] [0, 1, 2, 3, 4] rfl rfl (by decide) (by decide) hk1 hFc hP1 hD1
  have hK := (hK.sub (tys' := [(y4, .byte), (y12, .int)]) [0, 1] rfl).app hK1
  generalize H1 = H at hP hS ⊢
  have hP : va_P D vwCl [(h0, .inr (9, [.ref q1, .ref q5, .null, .null, .null, .null, .null, .null, .null, .null, .null, .null, .null, .null])), (q1, .inr (7, [.ref y3, .int 0, .int 0])), (y3, .inl (y4, 200, .inl (fun _ => 0))), (q5, .inr (8, [.ref y7, .ref y8, .ref y9, .ref y10, .ref y11, .int 0, .int 0, .int 0])), (y9, .inl (y12, 32, .inl (fun _ => 0))), (q13, .inr (8, [.ref y15, .ref y16, .ref y17, .ref y18, .ref y19, .int 0, .int 0, .int 0])), (y17, .inl (y20, 32, .inl (fun _ => 0)))] H := hP
  have hD : va_D A [(h0, .inr (9, [.ref q1, .ref q5, .null, .null, .null, .null, .null, .null, .null, .null, .null, .null, .null, .null])), (q1, .inr (7, [.ref y3, .int 0, .int 0])), (y3, .inl (y4, 200, .inl (fun _ => 0))), (q5, .inr (8, [.ref y7, .ref y8, .ref y9, .ref y10, .ref y11, .int 0, .int 0, .int 0])), (y9, .inl (y12, 32, .inl (fun _ => 0))), (q13, .inr (8, [.ref y15, .ref y16, .ref y17, .ref y18, .ref y19, .int 0, .int 0, .int 0])), (y17, .inl (y20, 32, .inl (fun _ => 0)))] := hD
  have hK : va_K D vwCl [(y4, .byte), (y12, .int), (y20, .int)] s := hK
  refine W.widen (k := 14) (n := 581) (Nat.le_of_ble_eq_true rfl) (Nat.le_of_ble_eq_true rfl) ?_
  refine va_putF (D := D) (ci := 9) (v := .ref q13) (ty := .object "LineCites$Work") (C := RX9) (T := TX9) (N := 14) hx hb hts (fun _ h => List.mem_cons_of_mem _ (List.mem_append_left _ (List.mem_append_left _ (List.mem_append_left _ (List.mem_append_left _ (List.mem_append_left _ (List.mem_append_left _ (List.mem_append_left _ (List.mem_append_right _ h))))))))) tyX9 tyX9_ok nmX9 hown hK hP hD hS 0 rfl rfl 2 (by decide) (hts (.fieldLink RX9 23 "LineCites" "draft" "LLineCites$Work;") (List.mem_of_getElem? (i := 26) rfl)) (fun _ h9 => h9) rfl hin rfl (by decide +kernel) rfl rfl (Nat.le_of_ble_eq_true rfl) dX9_init_34 (fun H locs hP hD hS => ?_)
  have hP : va_P D vwCl [(h0, .inr (9, [.ref q1, .ref q5, .ref q13, .null, .null, .null, .null, .null, .null, .null, .null, .null, .null, .null])), (q1, .inr (7, [.ref y3, .int 0, .int 0])), (y3, .inl (y4, 200, .inl (fun _ => 0))), (q5, .inr (8, [.ref y7, .ref y8, .ref y9, .ref y10, .ref y11, .int 0, .int 0, .int 0])), (y9, .inl (y12, 32, .inl (fun _ => 0))), (q13, .inr (8, [.ref y15, .ref y16, .ref y17, .ref y18, .ref y19, .int 0, .int 0, .int 0])), (y17, .inl (y20, 32, .inl (fun _ => 0)))] H := hP
  have hD : va_D A [(h0, .inr (9, [.ref q1, .ref q5, .ref q13, .null, .null, .null, .null, .null, .null, .null, .null, .null, .null, .null])), (q1, .inr (7, [.ref y3, .int 0, .int 0])), (y3, .inl (y4, 200, .inl (fun _ => 0))), (q5, .inr (8, [.ref y7, .ref y8, .ref y9, .ref y10, .ref y11, .int 0, .int 0, .int 0])), (y9, .inl (y12, 32, .inl (fun _ => 0))), (q13, .inr (8, [.ref y15, .ref y16, .ref y17, .ref y18, .ref y19, .int 0, .int 0, .int 0])), (y17, .inl (y20, 32, .inl (fun _ => 0)))] := hD
  have hK : va_K D vwCl [(y4, .byte), (y12, .int), (y20, .int)] s := hK
  refine lv_aload_n hx hb dX9_init_37 rfl (lv_at hl 0 rfl) ?_
  refine va_new (ci := 4) (fs := [.null, .null, .int 0, .int 0, .int 0, .int 0, .int 0]) (C := RX4) (T := TX4) (N := 7) hx hb hts (fun _ h => List.mem_cons_of_mem _ (List.mem_append_left _ (List.mem_append_left _ (List.mem_append_left _ (List.mem_append_left _ (List.mem_append_left _ (List.mem_append_right _ h))))))) tyX4 tyX4_ok hown (hts (.classLink RX9 26 RX4) (List.mem_of_getElem? (i := 27) rfl)) (hts (.instantiable RX4 7) (List.mem_of_getElem? (i := 28) rfl)) (hts (.initialized RX4) (List.mem_of_getElem? (i := 29) rfl)) hK hP hD hS hA rfl (fun j hj => by rcases (show j = 0 ∨ j = 1 ∨ j = 2 ∨ j = 3 ∨ j = 4 ∨ j = 5 ∨ j = 6 by omega) with rfl | rfl | rfl | rfl | rfl | rfl | rfl <;> rfl) (Nat.le_of_ble_eq_true rfl) (Nat.le_of_ble_eq_true rfl) dX9_init_38 (fun q21 H hP hD hS => ?_)
  have hP : va_P D vwCl [(h0, .inr (9, [.ref q1, .ref q5, .ref q13, .null, .null, .null, .null, .null, .null, .null, .null, .null, .null, .null])), (q1, .inr (7, [.ref y3, .int 0, .int 0])), (y3, .inl (y4, 200, .inl (fun _ => 0))), (q5, .inr (8, [.ref y7, .ref y8, .ref y9, .ref y10, .ref y11, .int 0, .int 0, .int 0])), (y9, .inl (y12, 32, .inl (fun _ => 0))), (q13, .inr (8, [.ref y15, .ref y16, .ref y17, .ref y18, .ref y19, .int 0, .int 0, .int 0])), (y17, .inl (y20, 32, .inl (fun _ => 0))), (q21, .inr (4, [.null, .null, .int 0, .int 0, .int 0, .int 0, .int 0]))] H := hP
  have hD : va_D A [(h0, .inr (9, [.ref q1, .ref q5, .ref q13, .null, .null, .null, .null, .null, .null, .null, .null, .null, .null, .null])), (q1, .inr (7, [.ref y3, .int 0, .int 0])), (y3, .inl (y4, 200, .inl (fun _ => 0))), (q5, .inr (8, [.ref y7, .ref y8, .ref y9, .ref y10, .ref y11, .int 0, .int 0, .int 0])), (y9, .inl (y12, 32, .inl (fun _ => 0))), (q13, .inr (8, [.ref y15, .ref y16, .ref y17, .ref y18, .ref y19, .int 0, .int 0, .int 0])), (y17, .inl (y20, 32, .inl (fun _ => 0))), (q21, .inr (4, [.null, .null, .int 0, .int 0, .int 0, .int 0, .int 0]))] := hD
  have hK : va_K D vwCl [(y4, .byte), (y12, .int), (y20, .int)] s := hK
  refine W.widen (k := 15) (n := 588) (Nat.le_of_ble_eq_true rfl) (Nat.le_of_ble_eq_true rfl) ?_
  refine lv_dup hx hb dX9_init_41 rfl ?_
  refine lv_aload_n hx hb dX9_init_42 rfl (lv_at hl 0 rfl) ?_
  refine va_get (D := D) (ci := 9) (v := .ref q1) (C := RX9) (T := TX9) (N := 14) hx hb hts (fun _ h => List.mem_cons_of_mem _ (List.mem_append_left _ (List.mem_append_left _ (List.mem_append_left _ (List.mem_append_left _ (List.mem_append_left _ (List.mem_append_left _ (List.mem_append_left _ (List.mem_append_right _ h))))))))) hown hK hP 0 rfl rfl 0 (by decide) (hts (.fieldLink RX9 10 "LineCites" "tape" "LLineCites$Tape;") (List.mem_of_getElem? (i := 12) rfl)) (fun _ h9 => h9) rfl dX9_init_43 ?_
  refine lv_aload_n hx hb dX9_init_46 rfl (lv_at hl 0 rfl) ?_
  refine va_get (D := D) (ci := 9) (v := .ref q13) (C := RX9) (T := TX9) (N := 14) hx hb hts (fun _ h => List.mem_cons_of_mem _ (List.mem_append_left _ (List.mem_append_left _ (List.mem_append_left _ (List.mem_append_left _ (List.mem_append_left _ (List.mem_append_left _ (List.mem_append_left _ (List.mem_append_right _ h))))))))) hown hK hP 0 rfl rfl 2 (by decide) (hts (.fieldLink RX9 23 "LineCites" "draft" "LLineCites$Work;") (List.mem_of_getElem? (i := 26) rfl)) (fun _ h9 => h9) rfl dX9_init_47 ?_
  have hPc := hP.sub (ws' := [(q21, .inr (4, [.null, .null, .int 0, .int 0, .int 0, .int 0, .int 0]))]) [7] rfl
  have hKc := hK.sub (tys' := []) [] rfl
  have hDc := hD.sub (ws' := [(q21, .inr (4, [.null, .null, .int 0, .int 0, .int 0, .int 0, .int 0]))]) [7] (by decide) rfl
  have hFc := va_free (wc := [(q21, .inr (4, [.null, .null, .int 0, .int 0, .int 0, .int 0, .int 0]))]) hD hS hA [7] rfl
  refine va_callv (va_runI (As := [.ref q1, .ref q13]) (rest := [.ref q21, .ref h0]) ⟨hx, hb, hml, hown, hts⟩ (c_X4_init l D q21 q1 q13 H.size) (cwI 2 hts g_X9_init_X4_init rfl rfl rfl (hts (.initialized RX4) (List.mem_of_getElem? (i := 29) rfl)) (hts (.methodLink RX9 28 yX4_init) (List.mem_of_getElem? (i := 30) rfl)) (hts (.instanceMethod yX4_init) (List.mem_of_getElem? (i := 31) rfl)) rfl (by decide +kernel) ⟨Nat.le_of_ble_eq_true rfl, Nat.le_of_ble_eq_true rfl⟩) ⟨fun a U g mk q => by obtain ⟨q0, q1, qP, qK, qD⟩ := q; exact ⟨q0, q1, qP, va_K.moved (u := U) (U := U.calling g mk a) (Vm.Alike.refl U.vm) qK, qD⟩, fun U hU hW => ⟨rfl, by rw [hU], by rw [hU]; exact hPc, va_K.moved hW.alike hKc, hDc.weaken (fun _ _ _ _ => trivial)⟩⟩ rfl rfl hl.1 rfl (lv_room (Nat.le_of_ble_eq_true rfl)) dX9_init_50 ⟨Nat.le_of_ble_eq_true rfl, Nat.le_of_ble_eq_true rfl⟩) hS (fun q _ h => hFc q h) hFc (fun u t H1 locs ht hvm hw hB hz1 hk1 hS => ?_)
  obtain ⟨hP1, hK1, hD1⟩ := hB
  rw [ht] at hP1
  have hK1 := va_K.moved hvm.symm hK1
  obtain ⟨hP, hD⟩ := va_join (wr := [(h0, .inr (9, [.ref q1, .ref q5, .ref q13, .null, .null, .null, .null, .null, .null, .null, .null, .null, .null, .null])), (q1, .inr (7, [.ref y3, .int 0, .int 0])), (y3, .inl (y4, 200, .inl (fun _ => 0))), (q5, .inr (8, [.ref y7, .ref y8, .ref y9, .ref y10, .ref y11, .int 0, .int 0, .int 0])), (y9, .inl (y12, 32, .inl (fun _ => 0))), (q13, .inr (8, [.ref y15, .ref y16, .ref y17, .ref y18, .ref y19, .int 0, .int 0, .int 0])), (y17, .inl (y20, 32, .inl (fun _ => 0)))]) (w1 := [(q21, .inr (4, [.ref q1, .ref q13, .int 0, .int 0, .int 0, .int 0, .int 0]))]) hP hD [7] [0, 1, 2, 3, 4, 5, 6] rfl rfl (by decide) (by decide) hk1 hFc hP1 hD1
  have hK := (hK.sub (tys' := [(y4, .byte), (y12, .int), (y20, .int)]) [0, 1, 2] rfl).app hK1
  generalize H1 = H at hP hS ⊢
  have hP : va_P D vwCl [(h0, .inr (9, [.ref q1, .ref q5, .ref q13, .null, .null, .null, .null, .null, .null, .null, .null, .null, .null, .null])), (q1, .inr (7, [.ref y3, .int 0, .int 0])), (y3, .inl (y4, 200, .inl (fun _ => 0))), (q5, .inr (8, [.ref y7, .ref y8, .ref y9, .ref y10, .ref y11, .int 0, .int 0, .int 0])), (y9, .inl (y12, 32, .inl (fun _ => 0))), (q13, .inr (8, [.ref y15, .ref y16, .ref y17, .ref y18, .ref y19, .int 0, .int 0, .int 0])), (y17, .inl (y20, 32, .inl (fun _ => 0))), (q21, .inr (4, [.ref q1, .ref q13, .int 0, .int 0, .int 0, .int 0, .int 0]))] H := hP
  have hD : va_D A [(h0, .inr (9, [.ref q1, .ref q5, .ref q13, .null, .null, .null, .null, .null, .null, .null, .null, .null, .null, .null])), (q1, .inr (7, [.ref y3, .int 0, .int 0])), (y3, .inl (y4, 200, .inl (fun _ => 0))), (q5, .inr (8, [.ref y7, .ref y8, .ref y9, .ref y10, .ref y11, .int 0, .int 0, .int 0])), (y9, .inl (y12, 32, .inl (fun _ => 0))), (q13, .inr (8, [.ref y15, .ref y16, .ref y17, .ref y18, .ref y19, .int 0, .int 0, .int 0])), (y17, .inl (y20, 32, .inl (fun _ => 0))), (q21, .inr (4, [.ref q1, .ref q13, .int 0, .int 0, .int 0, .int 0, .int 0]))] := hD
  have hK : va_K D vwCl [(y4, .byte), (y12, .int), (y20, .int)] s := hK
  refine W.widen (k := 15) (n := 588) (Nat.le_of_ble_eq_true rfl) (Nat.le_of_ble_eq_true rfl) ?_
  refine va_putF (D := D) (ci := 9) (v := .ref q21) (ty := .object "LineCites$Reader") (C := RX9) (T := TX9) (N := 14) hx hb hts (fun _ h => List.mem_cons_of_mem _ (List.mem_append_left _ (List.mem_append_left _ (List.mem_append_left _ (List.mem_append_left _ (List.mem_append_left _ (List.mem_append_left _ (List.mem_append_left _ (List.mem_append_right _ h))))))))) tyX9 tyX9_ok nmX9 hown hK hP hD hS 0 rfl rfl 3 (by decide) (hts (.fieldLink RX9 31 "LineCites" "reader" "LLineCites$Reader;") (List.mem_of_getElem? (i := 36) rfl)) (fun _ h9 => h9) rfl hin rfl (by decide +kernel) rfl rfl (Nat.le_of_ble_eq_true rfl) dX9_init_53 (fun H locs hP hD hS => ?_)
  have hP : va_P D vwCl [(h0, .inr (9, [.ref q1, .ref q5, .ref q13, .ref q21, .null, .null, .null, .null, .null, .null, .null, .null, .null, .null])), (q1, .inr (7, [.ref y3, .int 0, .int 0])), (y3, .inl (y4, 200, .inl (fun _ => 0))), (q5, .inr (8, [.ref y7, .ref y8, .ref y9, .ref y10, .ref y11, .int 0, .int 0, .int 0])), (y9, .inl (y12, 32, .inl (fun _ => 0))), (q13, .inr (8, [.ref y15, .ref y16, .ref y17, .ref y18, .ref y19, .int 0, .int 0, .int 0])), (y17, .inl (y20, 32, .inl (fun _ => 0))), (q21, .inr (4, [.ref q1, .ref q13, .int 0, .int 0, .int 0, .int 0, .int 0]))] H := hP
  have hD : va_D A [(h0, .inr (9, [.ref q1, .ref q5, .ref q13, .ref q21, .null, .null, .null, .null, .null, .null, .null, .null, .null, .null])), (q1, .inr (7, [.ref y3, .int 0, .int 0])), (y3, .inl (y4, 200, .inl (fun _ => 0))), (q5, .inr (8, [.ref y7, .ref y8, .ref y9, .ref y10, .ref y11, .int 0, .int 0, .int 0])), (y9, .inl (y12, 32, .inl (fun _ => 0))), (q13, .inr (8, [.ref y15, .ref y16, .ref y17, .ref y18, .ref y19, .int 0, .int 0, .int 0])), (y17, .inl (y20, 32, .inl (fun _ => 0))), (q21, .inr (4, [.ref q1, .ref q13, .int 0, .int 0, .int 0, .int 0, .int 0]))] := hD
  have hK : va_K D vwCl [(y4, .byte), (y12, .int), (y20, .int)] s := hK
  refine lv_aload_n hx hb dX9_init_56 rfl (lv_at hl 0 rfl) ?_
  refine va_new (ci := 0) (fs := [.null, .int 0, .int 0]) (C := RX0) (T := TX0) (N := 3) hx hb hts (fun _ h => List.mem_cons_of_mem _ (List.mem_append_left _ (List.mem_append_left _ (List.mem_append_left _ (List.mem_append_left _ (List.mem_append_right _ h)))))) tyX0 tyX0_ok hown (hts (.classLink RX9 35 RX0) (List.mem_of_getElem? (i := 37) rfl)) (hts (.instantiable RX0 3) (List.mem_of_getElem? (i := 38) rfl)) (hts (.initialized RX0) (List.mem_of_getElem? (i := 39) rfl)) hK hP hD hS hA rfl (fun j hj => by rcases (show j = 0 ∨ j = 1 ∨ j = 2 by omega) with rfl | rfl | rfl <;> rfl) (Nat.le_of_ble_eq_true rfl) (Nat.le_of_ble_eq_true rfl) dX9_init_57 (fun q23 H hP hD hS => ?_)
  have hP : va_P D vwCl [(h0, .inr (9, [.ref q1, .ref q5, .ref q13, .ref q21, .null, .null, .null, .null, .null, .null, .null, .null, .null, .null])), (q1, .inr (7, [.ref y3, .int 0, .int 0])), (y3, .inl (y4, 200, .inl (fun _ => 0))), (q5, .inr (8, [.ref y7, .ref y8, .ref y9, .ref y10, .ref y11, .int 0, .int 0, .int 0])), (y9, .inl (y12, 32, .inl (fun _ => 0))), (q13, .inr (8, [.ref y15, .ref y16, .ref y17, .ref y18, .ref y19, .int 0, .int 0, .int 0])), (y17, .inl (y20, 32, .inl (fun _ => 0))), (q21, .inr (4, [.ref q1, .ref q13, .int 0, .int 0, .int 0, .int 0, .int 0])), (q23, .inr (0, [.null, .int 0, .int 0]))] H := hP
  have hD : va_D A [(h0, .inr (9, [.ref q1, .ref q5, .ref q13, .ref q21, .null, .null, .null, .null, .null, .null, .null, .null, .null, .null])), (q1, .inr (7, [.ref y3, .int 0, .int 0])), (y3, .inl (y4, 200, .inl (fun _ => 0))), (q5, .inr (8, [.ref y7, .ref y8, .ref y9, .ref y10, .ref y11, .int 0, .int 0, .int 0])), (y9, .inl (y12, 32, .inl (fun _ => 0))), (q13, .inr (8, [.ref y15, .ref y16, .ref y17, .ref y18, .ref y19, .int 0, .int 0, .int 0])), (y17, .inl (y20, 32, .inl (fun _ => 0))), (q21, .inr (4, [.ref q1, .ref q13, .int 0, .int 0, .int 0, .int 0, .int 0])), (q23, .inr (0, [.null, .int 0, .int 0]))] := hD
  have hK : va_K D vwCl [(y4, .byte), (y12, .int), (y20, .int)] s := hK
  refine W.widen (k := 16) (n := 591) (Nat.le_of_ble_eq_true rfl) (Nat.le_of_ble_eq_true rfl) ?_
  refine lv_dup hx hb dX9_init_60 rfl ?_
  have hPc := hP.sub (ws' := [(q23, .inr (0, [.null, .int 0, .int 0]))]) [8] rfl
  have hKc := hK.sub (tys' := []) [] rfl
  have hDc := hD.sub (ws' := [(q23, .inr (0, [.null, .int 0, .int 0]))]) [8] (by decide) rfl
  have hFc := va_free (wc := [(q23, .inr (0, [.null, .int 0, .int 0]))]) hD hS hA [8] rfl
  refine va_callv (va_runIN (As := []) (rest := [.ref q23, .ref h0]) ⟨hx, hb, hml, hown, hts⟩ (c_X0_init l D q23 H.size) ⟨va_cnB 0 hts g_X9_init_X0_init rfl rfl rfl hN9_37 (hts (.initialized RX0) (List.mem_of_getElem? (i := 39) rfl)) (by decide +kernel) ⟨Nat.le_of_ble_eq_true rfl, Nat.le_of_ble_eq_true rfl⟩, rfl, (hts (.instanceMethod yX0_init) (List.mem_of_getElem? (i := 40) rfl))⟩ ⟨fun a U g mk q => by obtain ⟨q0, q1, qP, qK, qD, qE0⟩ := q; exact ⟨q0, q1, qP, va_K.moved (u := U) (U := U.calling g mk a) (Vm.Alike.refl U.vm) qK, qD, va_AO.moved (u := U) (U := U.calling g mk a) (Vm.Alike.refl U.vm) qE0⟩, fun U hU hW => ⟨rfl, by rw [hU], by rw [hU]; exact hPc, va_K.moved hW.alike hKc, hDc.weaken (fun _ _ _ _ => trivial), va_AO.moved hW.alike hAO8⟩⟩ rfl rfl hl.1 rfl (lv_room (Nat.le_of_ble_eq_true rfl)) dX9_init_61 ⟨Nat.le_of_ble_eq_true rfl, Nat.le_of_ble_eq_true rfl⟩) hS (fun q _ h => hFc q h) hFc (fun u t H1 locs ht hvm hw hB hz1 hk1 hS => ?_)
  obtain ⟨y25, hP1, hK1, hD1⟩ := hB
  rw [ht] at hP1
  have hK1 := va_K.moved hvm.symm hK1
  obtain ⟨hP, hD⟩ := va_join (wr := [(h0, .inr (9, [.ref q1, .ref q5, .ref q13, .ref q21, .null, .null, .null, .null, .null, .null, .null, .null, .null, .null])), (q1, .inr (7, [.ref y3, .int 0, .int 0])), (y3, .inl (y4, 200, .inl (fun _ => 0))), (q5, .inr (8, [.ref y7, .ref y8, .ref y9, .ref y10, .ref y11, .int 0, .int 0, .int 0])), (y9, .inl (y12, 32, .inl (fun _ => 0))), (q13, .inr (8, [.ref y15, .ref y16, .ref y17, .ref y18, .ref y19, .int 0, .int 0, .int 0])), (y17, .inl (y20, 32, .inl (fun _ => 0))), (q21, .inr (4, [.ref q1, .ref q13, .int 0, .int 0, .int 0, .int 0, .int 0]))]) (w1 := [(q23, .inr (0, [.ref y25, .int 0, .int 0]))]) hP hD [8] [0, 1, 2, 3, 4, 5, 6, 7] rfl rfl (by decide) (by decide) hk1 hFc hP1 hD1
  have hK := (hK.sub (tys' := [(y4, .byte), (y12, .int), (y20, .int)]) [0, 1, 2] rfl).app hK1
  generalize H1 = H at hP hS ⊢
  have hP : va_P D vwCl [(h0, .inr (9, [.ref q1, .ref q5, .ref q13, .ref q21, .null, .null, .null, .null, .null, .null, .null, .null, .null, .null])), (q1, .inr (7, [.ref y3, .int 0, .int 0])), (y3, .inl (y4, 200, .inl (fun _ => 0))), (q5, .inr (8, [.ref y7, .ref y8, .ref y9, .ref y10, .ref y11, .int 0, .int 0, .int 0])), (y9, .inl (y12, 32, .inl (fun _ => 0))), (q13, .inr (8, [.ref y15, .ref y16, .ref y17, .ref y18, .ref y19, .int 0, .int 0, .int 0])), (y17, .inl (y20, 32, .inl (fun _ => 0))), (q21, .inr (4, [.ref q1, .ref q13, .int 0, .int 0, .int 0, .int 0, .int 0])), (q23, .inr (0, [.ref y25, .int 0, .int 0]))] H := hP
  have hD : va_D A [(h0, .inr (9, [.ref q1, .ref q5, .ref q13, .ref q21, .null, .null, .null, .null, .null, .null, .null, .null, .null, .null])), (q1, .inr (7, [.ref y3, .int 0, .int 0])), (y3, .inl (y4, 200, .inl (fun _ => 0))), (q5, .inr (8, [.ref y7, .ref y8, .ref y9, .ref y10, .ref y11, .int 0, .int 0, .int 0])), (y9, .inl (y12, 32, .inl (fun _ => 0))), (q13, .inr (8, [.ref y15, .ref y16, .ref y17, .ref y18, .ref y19, .int 0, .int 0, .int 0])), (y17, .inl (y20, 32, .inl (fun _ => 0))), (q21, .inr (4, [.ref q1, .ref q13, .int 0, .int 0, .int 0, .int 0, .int 0])), (q23, .inr (0, [.ref y25, .int 0, .int 0]))] := hD
  have hK : va_K D vwCl [(y4, .byte), (y12, .int), (y20, .int)] s := hK
  refine W.widen (k := 17) (n := 601) (Nat.le_of_ble_eq_true rfl) (Nat.le_of_ble_eq_true rfl) ?_
  refine va_putF (D := D) (ci := 9) (v := .ref q23) (ty := .object "LineCites$Acts") (C := RX9) (T := TX9) (N := 14) hx hb hts (fun _ h => List.mem_cons_of_mem _ (List.mem_append_left _ (List.mem_append_left _ (List.mem_append_left _ (List.mem_append_left _ (List.mem_append_left _ (List.mem_append_left _ (List.mem_append_left _ (List.mem_append_right _ h))))))))) tyX9 tyX9_ok nmX9 hown hK hP hD hS 0 rfl rfl 4 (by decide) (hts (.fieldLink RX9 38 "LineCites" "acts" "LLineCites$Acts;") (List.mem_of_getElem? (i := 45) rfl)) (fun _ h9 => h9) rfl hin rfl (by decide +kernel) rfl rfl (Nat.le_of_ble_eq_true rfl) dX9_init_64 (fun H locs hP hD hS => ?_)
  have hP : va_P D vwCl [(h0, .inr (9, [.ref q1, .ref q5, .ref q13, .ref q21, .ref q23, .null, .null, .null, .null, .null, .null, .null, .null, .null])), (q1, .inr (7, [.ref y3, .int 0, .int 0])), (y3, .inl (y4, 200, .inl (fun _ => 0))), (q5, .inr (8, [.ref y7, .ref y8, .ref y9, .ref y10, .ref y11, .int 0, .int 0, .int 0])), (y9, .inl (y12, 32, .inl (fun _ => 0))), (q13, .inr (8, [.ref y15, .ref y16, .ref y17, .ref y18, .ref y19, .int 0, .int 0, .int 0])), (y17, .inl (y20, 32, .inl (fun _ => 0))), (q21, .inr (4, [.ref q1, .ref q13, .int 0, .int 0, .int 0, .int 0, .int 0])), (q23, .inr (0, [.ref y25, .int 0, .int 0]))] H := hP
  have hD : va_D A [(h0, .inr (9, [.ref q1, .ref q5, .ref q13, .ref q21, .ref q23, .null, .null, .null, .null, .null, .null, .null, .null, .null])), (q1, .inr (7, [.ref y3, .int 0, .int 0])), (y3, .inl (y4, 200, .inl (fun _ => 0))), (q5, .inr (8, [.ref y7, .ref y8, .ref y9, .ref y10, .ref y11, .int 0, .int 0, .int 0])), (y9, .inl (y12, 32, .inl (fun _ => 0))), (q13, .inr (8, [.ref y15, .ref y16, .ref y17, .ref y18, .ref y19, .int 0, .int 0, .int 0])), (y17, .inl (y20, 32, .inl (fun _ => 0))), (q21, .inr (4, [.ref q1, .ref q13, .int 0, .int 0, .int 0, .int 0, .int 0])), (q23, .inr (0, [.ref y25, .int 0, .int 0]))] := hD
  have hK : va_K D vwCl [(y4, .byte), (y12, .int), (y20, .int)] s := hK
  refine lv_aload_n hx hb dX9_init_67 rfl (lv_at hl 0 rfl) ?_
  refine lv_iconst (v := 2) hx hb dX9_init_68 (by decide) ?_
  refine va_newq (C := RX1) (N' := 2) hx hb hown (hts (.classLink RX9 42 RX1) (List.mem_of_getElem? (i := 46) rfl)) hAO1 hK hP hD hS hA (by decide) (by decide) (Nat.le_of_ble_eq_true rfl) (Nat.le_of_ble_eq_true rfl) (Nat.le_of_ble_eq_true rfl) dX9_init_69 (fun q26 k27 H hK hP hD hS => ?_)
  have hP : va_P D vwCl [(h0, .inr (9, [.ref q1, .ref q5, .ref q13, .ref q21, .ref q23, .null, .null, .null, .null, .null, .null, .null, .null, .null])), (q1, .inr (7, [.ref y3, .int 0, .int 0])), (y3, .inl (y4, 200, .inl (fun _ => 0))), (q5, .inr (8, [.ref y7, .ref y8, .ref y9, .ref y10, .ref y11, .int 0, .int 0, .int 0])), (y9, .inl (y12, 32, .inl (fun _ => 0))), (q13, .inr (8, [.ref y15, .ref y16, .ref y17, .ref y18, .ref y19, .int 0, .int 0, .int 0])), (y17, .inl (y20, 32, .inl (fun _ => 0))), (q21, .inr (4, [.ref q1, .ref q13, .int 0, .int 0, .int 0, .int 0, .int 0])), (q23, .inr (0, [.ref y25, .int 0, .int 0])), (q26, .inl (k27, 2, .inr (.inr (.inr (.inr (fun _ => none))))))] H := hP
  have hD : va_D A [(h0, .inr (9, [.ref q1, .ref q5, .ref q13, .ref q21, .ref q23, .null, .null, .null, .null, .null, .null, .null, .null, .null])), (q1, .inr (7, [.ref y3, .int 0, .int 0])), (y3, .inl (y4, 200, .inl (fun _ => 0))), (q5, .inr (8, [.ref y7, .ref y8, .ref y9, .ref y10, .ref y11, .int 0, .int 0, .int 0])), (y9, .inl (y12, 32, .inl (fun _ => 0))), (q13, .inr (8, [.ref y15, .ref y16, .ref y17, .ref y18, .ref y19, .int 0, .int 0, .int 0])), (y17, .inl (y20, 32, .inl (fun _ => 0))), (q21, .inr (4, [.ref q1, .ref q13, .int 0, .int 0, .int 0, .int 0, .int 0])), (q23, .inr (0, [.ref y25, .int 0, .int 0])), (q26, .inl (k27, 2, .inr (.inr (.inr (.inr (fun _ => none))))))] := hD
  have hK : va_K D vwCl [(y4, .byte), (y12, .int), (y20, .int), (k27, .object RX1)] s := hK
  refine W.widen (k := 18) (n := 603) (Nat.le_of_ble_eq_true rfl) (Nat.le_of_ble_eq_true rfl) ?_
  refine va_putF (D := D) (ci := 9) (v := .ref q26) (ty := .array (.object "LineCites$Image")) (C := RX9) (T := TX9) (N := 14) hx hb hts (fun _ h => List.mem_cons_of_mem _ (List.mem_append_left _ (List.mem_append_left _ (List.mem_append_left _ (List.mem_append_left _ (List.mem_append_left _ (List.mem_append_left _ (List.mem_append_left _ (List.mem_append_right _ h))))))))) tyX9 tyX9_ok nmX9 hown hK hP hD hS 0 rfl rfl 5 (by decide) (hts (.fieldLink RX9 44 "LineCites" "images" "[LLineCites$Image;") (List.mem_of_getElem? (i := 47) rfl)) (fun _ h9 => h9) rfl hin rfl (by decide +kernel) rfl rfl (Nat.le_of_ble_eq_true rfl) dX9_init_72 (fun H locs hP hD hS => ?_)
  have hP : va_P D vwCl [(h0, .inr (9, [.ref q1, .ref q5, .ref q13, .ref q21, .ref q23, .ref q26, .null, .null, .null, .null, .null, .null, .null, .null])), (q1, .inr (7, [.ref y3, .int 0, .int 0])), (y3, .inl (y4, 200, .inl (fun _ => 0))), (q5, .inr (8, [.ref y7, .ref y8, .ref y9, .ref y10, .ref y11, .int 0, .int 0, .int 0])), (y9, .inl (y12, 32, .inl (fun _ => 0))), (q13, .inr (8, [.ref y15, .ref y16, .ref y17, .ref y18, .ref y19, .int 0, .int 0, .int 0])), (y17, .inl (y20, 32, .inl (fun _ => 0))), (q21, .inr (4, [.ref q1, .ref q13, .int 0, .int 0, .int 0, .int 0, .int 0])), (q23, .inr (0, [.ref y25, .int 0, .int 0])), (q26, .inl (k27, 2, .inr (.inr (.inr (.inr (fun _ => none))))))] H := hP
  have hD : va_D A [(h0, .inr (9, [.ref q1, .ref q5, .ref q13, .ref q21, .ref q23, .ref q26, .null, .null, .null, .null, .null, .null, .null, .null])), (q1, .inr (7, [.ref y3, .int 0, .int 0])), (y3, .inl (y4, 200, .inl (fun _ => 0))), (q5, .inr (8, [.ref y7, .ref y8, .ref y9, .ref y10, .ref y11, .int 0, .int 0, .int 0])), (y9, .inl (y12, 32, .inl (fun _ => 0))), (q13, .inr (8, [.ref y15, .ref y16, .ref y17, .ref y18, .ref y19, .int 0, .int 0, .int 0])), (y17, .inl (y20, 32, .inl (fun _ => 0))), (q21, .inr (4, [.ref q1, .ref q13, .int 0, .int 0, .int 0, .int 0, .int 0])), (q23, .inr (0, [.ref y25, .int 0, .int 0])), (q26, .inl (k27, 2, .inr (.inr (.inr (.inr (fun _ => none))))))] := hD
  have hK : va_K D vwCl [(y4, .byte), (y12, .int), (y20, .int), (k27, .object RX1)] s := hK
  refine lv_aload_n hx hb dX9_init_75 rfl (lv_at hl 0 rfl) ?_
  refine va_new (ci := 3) (fs := [.null, .null, .int 0]) (C := RX3) (T := TX3) (N := 3) hx hb hts (fun _ h => List.mem_cons_of_mem _ (List.mem_append_left _ (List.mem_append_left _ (List.mem_append_left _ (List.mem_append_right _ h))))) tyX3 tyX3_ok hown (hts (.classLink RX9 48 RX3) (List.mem_of_getElem? (i := 48) rfl)) (hts (.instantiable RX3 3) (List.mem_of_getElem? (i := 49) rfl)) (hts (.initialized RX3) (List.mem_of_getElem? (i := 50) rfl)) hK hP hD hS hA rfl (fun j hj => by rcases (show j = 0 ∨ j = 1 ∨ j = 2 by omega) with rfl | rfl | rfl <;> rfl) (Nat.le_of_ble_eq_true rfl) (Nat.le_of_ble_eq_true rfl) dX9_init_76 (fun q28 H hP hD hS => ?_)
  have hP : va_P D vwCl [(h0, .inr (9, [.ref q1, .ref q5, .ref q13, .ref q21, .ref q23, .ref q26, .null, .null, .null, .null, .null, .null, .null, .null])), (q1, .inr (7, [.ref y3, .int 0, .int 0])), (y3, .inl (y4, 200, .inl (fun _ => 0))), (q5, .inr (8, [.ref y7, .ref y8, .ref y9, .ref y10, .ref y11, .int 0, .int 0, .int 0])), (y9, .inl (y12, 32, .inl (fun _ => 0))), (q13, .inr (8, [.ref y15, .ref y16, .ref y17, .ref y18, .ref y19, .int 0, .int 0, .int 0])), (y17, .inl (y20, 32, .inl (fun _ => 0))), (q21, .inr (4, [.ref q1, .ref q13, .int 0, .int 0, .int 0, .int 0, .int 0])), (q23, .inr (0, [.ref y25, .int 0, .int 0])), (q26, .inl (k27, 2, .inr (.inr (.inr (.inr (fun _ => none)))))), (q28, .inr (3, [.null, .null, .int 0]))] H := hP
  have hD : va_D A [(h0, .inr (9, [.ref q1, .ref q5, .ref q13, .ref q21, .ref q23, .ref q26, .null, .null, .null, .null, .null, .null, .null, .null])), (q1, .inr (7, [.ref y3, .int 0, .int 0])), (y3, .inl (y4, 200, .inl (fun _ => 0))), (q5, .inr (8, [.ref y7, .ref y8, .ref y9, .ref y10, .ref y11, .int 0, .int 0, .int 0])), (y9, .inl (y12, 32, .inl (fun _ => 0))), (q13, .inr (8, [.ref y15, .ref y16, .ref y17, .ref y18, .ref y19, .int 0, .int 0, .int 0])), (y17, .inl (y20, 32, .inl (fun _ => 0))), (q21, .inr (4, [.ref q1, .ref q13, .int 0, .int 0, .int 0, .int 0, .int 0])), (q23, .inr (0, [.ref y25, .int 0, .int 0])), (q26, .inl (k27, 2, .inr (.inr (.inr (.inr (fun _ => none)))))), (q28, .inr (3, [.null, .null, .int 0]))] := hD
  have hK : va_K D vwCl [(y4, .byte), (y12, .int), (y20, .int), (k27, .object RX1)] s := hK
  refine W.widen (k := 19) (n := 606) (Nat.le_of_ble_eq_true rfl) (Nat.le_of_ble_eq_true rfl) ?_
  refine lv_dup hx hb dX9_init_79 rfl ?_
  have hPc := hP.sub (ws' := [(q28, .inr (3, [.null, .null, .int 0]))]) [10] rfl
  have hKc := hK.sub (tys' := []) [] rfl
  have hDc := hD.sub (ws' := [(q28, .inr (3, [.null, .null, .int 0]))]) [10] (by decide) rfl
  have hFc := va_free (wc := [(q28, .inr (3, [.null, .null, .int 0]))]) hD hS hA [10] rfl
  refine va_callv (va_runIN (As := []) (rest := [.ref q28, .ref h0]) ⟨hx, hb, hml, hown, hts⟩ (c_X3_init l D q28 H.size) ⟨va_cnB 0 hts g_X9_init_X3_init rfl rfl rfl hN9_50 (hts (.initialized RX3) (List.mem_of_getElem? (i := 50) rfl)) (by decide +kernel) ⟨Nat.le_of_ble_eq_true rfl, Nat.le_of_ble_eq_true rfl⟩, rfl, (hts (.instanceMethod yX3_init) (List.mem_of_getElem? (i := 51) rfl))⟩ ⟨fun a U g mk q => by obtain ⟨q0, q1, qP, qK, qD⟩ := q; exact ⟨q0, q1, qP, va_K.moved (u := U) (U := U.calling g mk a) (Vm.Alike.refl U.vm) qK, qD⟩, fun U hU hW => ⟨rfl, by rw [hU], by rw [hU]; exact hPc, va_K.moved hW.alike hKc, hDc.weaken (fun _ _ _ _ => trivial)⟩⟩ rfl rfl hl.1 rfl (lv_room (Nat.le_of_ble_eq_true rfl)) dX9_init_80 ⟨Nat.le_of_ble_eq_true rfl, Nat.le_of_ble_eq_true rfl⟩) hS (fun q _ h => hFc q h) hFc (fun u t H1 locs ht hvm hw hB hz1 hk1 hS => ?_)
  obtain ⟨hP1, hK1, hD1⟩ := hB
  rw [ht] at hP1
  have hK1 := va_K.moved hvm.symm hK1
  obtain ⟨hP, hD⟩ := va_join (wr := [(h0, .inr (9, [.ref q1, .ref q5, .ref q13, .ref q21, .ref q23, .ref q26, .null, .null, .null, .null, .null, .null, .null, .null])), (q1, .inr (7, [.ref y3, .int 0, .int 0])), (y3, .inl (y4, 200, .inl (fun _ => 0))), (q5, .inr (8, [.ref y7, .ref y8, .ref y9, .ref y10, .ref y11, .int 0, .int 0, .int 0])), (y9, .inl (y12, 32, .inl (fun _ => 0))), (q13, .inr (8, [.ref y15, .ref y16, .ref y17, .ref y18, .ref y19, .int 0, .int 0, .int 0])), (y17, .inl (y20, 32, .inl (fun _ => 0))), (q21, .inr (4, [.ref q1, .ref q13, .int 0, .int 0, .int 0, .int 0, .int 0])), (q23, .inr (0, [.ref y25, .int 0, .int 0])), (q26, .inl (k27, 2, .inr (.inr (.inr (.inr (fun _ => none))))))]) (w1 := []) hP hD [10] [0, 1, 2, 3, 4, 5, 6, 7, 8, 9] rfl rfl (by decide) (by decide) hk1 hFc hP1 hD1
  have hK := (hK.sub (tys' := [(y4, .byte), (y12, .int), (y20, .int), (k27, .object RX1)]) [0, 1, 2, 3] rfl).app hK1
  generalize H1 = H at hP hS ⊢
  have hP : va_P D vwCl [(h0, .inr (9, [.ref q1, .ref q5, .ref q13, .ref q21, .ref q23, .ref q26, .null, .null, .null, .null, .null, .null, .null, .null])), (q1, .inr (7, [.ref y3, .int 0, .int 0])), (y3, .inl (y4, 200, .inl (fun _ => 0))), (q5, .inr (8, [.ref y7, .ref y8, .ref y9, .ref y10, .ref y11, .int 0, .int 0, .int 0])), (y9, .inl (y12, 32, .inl (fun _ => 0))), (q13, .inr (8, [.ref y15, .ref y16, .ref y17, .ref y18, .ref y19, .int 0, .int 0, .int 0])), (y17, .inl (y20, 32, .inl (fun _ => 0))), (q21, .inr (4, [.ref q1, .ref q13, .int 0, .int 0, .int 0, .int 0, .int 0])), (q23, .inr (0, [.ref y25, .int 0, .int 0])), (q26, .inl (k27, 2, .inr (.inr (.inr (.inr (fun _ => none))))))] H := hP
  have hD : va_D A [(h0, .inr (9, [.ref q1, .ref q5, .ref q13, .ref q21, .ref q23, .ref q26, .null, .null, .null, .null, .null, .null, .null, .null])), (q1, .inr (7, [.ref y3, .int 0, .int 0])), (y3, .inl (y4, 200, .inl (fun _ => 0))), (q5, .inr (8, [.ref y7, .ref y8, .ref y9, .ref y10, .ref y11, .int 0, .int 0, .int 0])), (y9, .inl (y12, 32, .inl (fun _ => 0))), (q13, .inr (8, [.ref y15, .ref y16, .ref y17, .ref y18, .ref y19, .int 0, .int 0, .int 0])), (y17, .inl (y20, 32, .inl (fun _ => 0))), (q21, .inr (4, [.ref q1, .ref q13, .int 0, .int 0, .int 0, .int 0, .int 0])), (q23, .inr (0, [.ref y25, .int 0, .int 0])), (q26, .inl (k27, 2, .inr (.inr (.inr (.inr (fun _ => none))))))] := hD
  have hK : va_K D vwCl [(y4, .byte), (y12, .int), (y20, .int), (k27, .object RX1)] s := hK
  refine W.widen (k := 21) (n := 1006) (Nat.le_of_ble_eq_true rfl) (Nat.le_of_ble_eq_true rfl) ?_
  refine va_putF (D := D) (ci := 9) (v := .ref q28) (ty := .object "LineCites$Numbering") (C := RX9) (T := TX9) (N := 14) hx hb hts (fun _ h => List.mem_cons_of_mem _ (List.mem_append_left _ (List.mem_append_left _ (List.mem_append_left _ (List.mem_append_left _ (List.mem_append_left _ (List.mem_append_left _ (List.mem_append_left _ (List.mem_append_right _ h))))))))) tyX9 tyX9_ok nmX9 hown hK hP hD hS 0 rfl rfl 6 (by decide) (hts (.fieldLink RX9 51 "LineCites" "one" "LLineCites$Numbering;") (List.mem_of_getElem? (i := 56) rfl)) (fun _ h9 => h9) rfl hin rfl (by decide +kernel) rfl rfl (Nat.le_of_ble_eq_true rfl) dX9_init_83 (fun H locs hP hD hS => ?_)
  have hP : va_P D vwCl [(h0, .inr (9, [.ref q1, .ref q5, .ref q13, .ref q21, .ref q23, .ref q26, .ref q28, .null, .null, .null, .null, .null, .null, .null])), (q1, .inr (7, [.ref y3, .int 0, .int 0])), (y3, .inl (y4, 200, .inl (fun _ => 0))), (q5, .inr (8, [.ref y7, .ref y8, .ref y9, .ref y10, .ref y11, .int 0, .int 0, .int 0])), (y9, .inl (y12, 32, .inl (fun _ => 0))), (q13, .inr (8, [.ref y15, .ref y16, .ref y17, .ref y18, .ref y19, .int 0, .int 0, .int 0])), (y17, .inl (y20, 32, .inl (fun _ => 0))), (q21, .inr (4, [.ref q1, .ref q13, .int 0, .int 0, .int 0, .int 0, .int 0])), (q23, .inr (0, [.ref y25, .int 0, .int 0])), (q26, .inl (k27, 2, .inr (.inr (.inr (.inr (fun _ => none))))))] H := hP
  have hD : va_D A [(h0, .inr (9, [.ref q1, .ref q5, .ref q13, .ref q21, .ref q23, .ref q26, .ref q28, .null, .null, .null, .null, .null, .null, .null])), (q1, .inr (7, [.ref y3, .int 0, .int 0])), (y3, .inl (y4, 200, .inl (fun _ => 0))), (q5, .inr (8, [.ref y7, .ref y8, .ref y9, .ref y10, .ref y11, .int 0, .int 0, .int 0])), (y9, .inl (y12, 32, .inl (fun _ => 0))), (q13, .inr (8, [.ref y15, .ref y16, .ref y17, .ref y18, .ref y19, .int 0, .int 0, .int 0])), (y17, .inl (y20, 32, .inl (fun _ => 0))), (q21, .inr (4, [.ref q1, .ref q13, .int 0, .int 0, .int 0, .int 0, .int 0])), (q23, .inr (0, [.ref y25, .int 0, .int 0])), (q26, .inl (k27, 2, .inr (.inr (.inr (.inr (fun _ => none))))))] := hD
  have hK : va_K D vwCl [(y4, .byte), (y12, .int), (y20, .int), (k27, .object RX1)] s := hK
  refine lv_aload_n hx hb dX9_init_86 rfl (lv_at hl 0 rfl) ?_
  refine va_new (ci := 3) (fs := [.null, .null, .int 0]) (C := RX3) (T := TX3) (N := 3) hx hb hts (fun _ h => List.mem_cons_of_mem _ (List.mem_append_left _ (List.mem_append_left _ (List.mem_append_left _ (List.mem_append_right _ h))))) tyX3 tyX3_ok hown (hts (.classLink RX9 48 RX3) (List.mem_of_getElem? (i := 48) rfl)) (hts (.instantiable RX3 3) (List.mem_of_getElem? (i := 49) rfl)) (hts (.initialized RX3) (List.mem_of_getElem? (i := 50) rfl)) hK hP hD hS hA rfl (fun j hj => by rcases (show j = 0 ∨ j = 1 ∨ j = 2 by omega) with rfl | rfl | rfl <;> rfl) (Nat.le_of_ble_eq_true rfl) (Nat.le_of_ble_eq_true rfl) dX9_init_87 (fun q30 H hP hD hS => ?_)
  have hP : va_P D vwCl [(h0, .inr (9, [.ref q1, .ref q5, .ref q13, .ref q21, .ref q23, .ref q26, .ref q28, .null, .null, .null, .null, .null, .null, .null])), (q1, .inr (7, [.ref y3, .int 0, .int 0])), (y3, .inl (y4, 200, .inl (fun _ => 0))), (q5, .inr (8, [.ref y7, .ref y8, .ref y9, .ref y10, .ref y11, .int 0, .int 0, .int 0])), (y9, .inl (y12, 32, .inl (fun _ => 0))), (q13, .inr (8, [.ref y15, .ref y16, .ref y17, .ref y18, .ref y19, .int 0, .int 0, .int 0])), (y17, .inl (y20, 32, .inl (fun _ => 0))), (q21, .inr (4, [.ref q1, .ref q13, .int 0, .int 0, .int 0, .int 0, .int 0])), (q23, .inr (0, [.ref y25, .int 0, .int 0])), (q26, .inl (k27, 2, .inr (.inr (.inr (.inr (fun _ => none)))))), (q30, .inr (3, [.null, .null, .int 0]))] H := hP
  have hD : va_D A [(h0, .inr (9, [.ref q1, .ref q5, .ref q13, .ref q21, .ref q23, .ref q26, .ref q28, .null, .null, .null, .null, .null, .null, .null])), (q1, .inr (7, [.ref y3, .int 0, .int 0])), (y3, .inl (y4, 200, .inl (fun _ => 0))), (q5, .inr (8, [.ref y7, .ref y8, .ref y9, .ref y10, .ref y11, .int 0, .int 0, .int 0])), (y9, .inl (y12, 32, .inl (fun _ => 0))), (q13, .inr (8, [.ref y15, .ref y16, .ref y17, .ref y18, .ref y19, .int 0, .int 0, .int 0])), (y17, .inl (y20, 32, .inl (fun _ => 0))), (q21, .inr (4, [.ref q1, .ref q13, .int 0, .int 0, .int 0, .int 0, .int 0])), (q23, .inr (0, [.ref y25, .int 0, .int 0])), (q26, .inl (k27, 2, .inr (.inr (.inr (.inr (fun _ => none)))))), (q30, .inr (3, [.null, .null, .int 0]))] := hD
  have hK : va_K D vwCl [(y4, .byte), (y12, .int), (y20, .int), (k27, .object RX1)] s := hK
  refine W.widen (k := 22) (n := 1009) (Nat.le_of_ble_eq_true rfl) (Nat.le_of_ble_eq_true rfl) ?_
  refine lv_dup hx hb dX9_init_90 rfl ?_
  have hPc := hP.sub (ws' := [(q30, .inr (3, [.null, .null, .int 0]))]) [10] rfl
  have hKc := hK.sub (tys' := []) [] rfl
  have hDc := hD.sub (ws' := [(q30, .inr (3, [.null, .null, .int 0]))]) [10] (by decide) rfl
  have hFc := va_free (wc := [(q30, .inr (3, [.null, .null, .int 0]))]) hD hS hA [10] rfl
  refine va_callv (va_runIN (As := []) (rest := [.ref q30, .ref h0]) ⟨hx, hb, hml, hown, hts⟩ (c_X3_init l D q30 H.size) ⟨va_cnB 0 hts g_X9_init_X3_init rfl rfl rfl hN9_50 (hts (.initialized RX3) (List.mem_of_getElem? (i := 50) rfl)) (by decide +kernel) ⟨Nat.le_of_ble_eq_true rfl, Nat.le_of_ble_eq_true rfl⟩, rfl, (hts (.instanceMethod yX3_init) (List.mem_of_getElem? (i := 51) rfl))⟩ ⟨fun a U g mk q => by obtain ⟨q0, q1, qP, qK, qD⟩ := q; exact ⟨q0, q1, qP, va_K.moved (u := U) (U := U.calling g mk a) (Vm.Alike.refl U.vm) qK, qD⟩, fun U hU hW => ⟨rfl, by rw [hU], by rw [hU]; exact hPc, va_K.moved hW.alike hKc, hDc.weaken (fun _ _ _ _ => trivial)⟩⟩ rfl rfl hl.1 rfl (lv_room (Nat.le_of_ble_eq_true rfl)) dX9_init_91 ⟨Nat.le_of_ble_eq_true rfl, Nat.le_of_ble_eq_true rfl⟩) hS (fun q _ h => hFc q h) hFc (fun u t H1 locs ht hvm hw hB hz1 hk1 hS => ?_)
  obtain ⟨hP1, hK1, hD1⟩ := hB
  rw [ht] at hP1
  have hK1 := va_K.moved hvm.symm hK1
  obtain ⟨hP, hD⟩ := va_join (wr := [(h0, .inr (9, [.ref q1, .ref q5, .ref q13, .ref q21, .ref q23, .ref q26, .ref q28, .null, .null, .null, .null, .null, .null, .null])), (q1, .inr (7, [.ref y3, .int 0, .int 0])), (y3, .inl (y4, 200, .inl (fun _ => 0))), (q5, .inr (8, [.ref y7, .ref y8, .ref y9, .ref y10, .ref y11, .int 0, .int 0, .int 0])), (y9, .inl (y12, 32, .inl (fun _ => 0))), (q13, .inr (8, [.ref y15, .ref y16, .ref y17, .ref y18, .ref y19, .int 0, .int 0, .int 0])), (y17, .inl (y20, 32, .inl (fun _ => 0))), (q21, .inr (4, [.ref q1, .ref q13, .int 0, .int 0, .int 0, .int 0, .int 0])), (q23, .inr (0, [.ref y25, .int 0, .int 0])), (q26, .inl (k27, 2, .inr (.inr (.inr (.inr (fun _ => none))))))]) (w1 := []) hP hD [10] [0, 1, 2, 3, 4, 5, 6, 7, 8, 9] rfl rfl (by decide) (by decide) hk1 hFc hP1 hD1
  have hK := (hK.sub (tys' := [(y4, .byte), (y12, .int), (y20, .int), (k27, .object RX1)]) [0, 1, 2, 3] rfl).app hK1
  generalize H1 = H at hP hS ⊢
  have hP : va_P D vwCl [(h0, .inr (9, [.ref q1, .ref q5, .ref q13, .ref q21, .ref q23, .ref q26, .ref q28, .null, .null, .null, .null, .null, .null, .null])), (q1, .inr (7, [.ref y3, .int 0, .int 0])), (y3, .inl (y4, 200, .inl (fun _ => 0))), (q5, .inr (8, [.ref y7, .ref y8, .ref y9, .ref y10, .ref y11, .int 0, .int 0, .int 0])), (y9, .inl (y12, 32, .inl (fun _ => 0))), (q13, .inr (8, [.ref y15, .ref y16, .ref y17, .ref y18, .ref y19, .int 0, .int 0, .int 0])), (y17, .inl (y20, 32, .inl (fun _ => 0))), (q21, .inr (4, [.ref q1, .ref q13, .int 0, .int 0, .int 0, .int 0, .int 0])), (q23, .inr (0, [.ref y25, .int 0, .int 0])), (q26, .inl (k27, 2, .inr (.inr (.inr (.inr (fun _ => none))))))] H := hP
  have hD : va_D A [(h0, .inr (9, [.ref q1, .ref q5, .ref q13, .ref q21, .ref q23, .ref q26, .ref q28, .null, .null, .null, .null, .null, .null, .null])), (q1, .inr (7, [.ref y3, .int 0, .int 0])), (y3, .inl (y4, 200, .inl (fun _ => 0))), (q5, .inr (8, [.ref y7, .ref y8, .ref y9, .ref y10, .ref y11, .int 0, .int 0, .int 0])), (y9, .inl (y12, 32, .inl (fun _ => 0))), (q13, .inr (8, [.ref y15, .ref y16, .ref y17, .ref y18, .ref y19, .int 0, .int 0, .int 0])), (y17, .inl (y20, 32, .inl (fun _ => 0))), (q21, .inr (4, [.ref q1, .ref q13, .int 0, .int 0, .int 0, .int 0, .int 0])), (q23, .inr (0, [.ref y25, .int 0, .int 0])), (q26, .inl (k27, 2, .inr (.inr (.inr (.inr (fun _ => none))))))] := hD
  have hK : va_K D vwCl [(y4, .byte), (y12, .int), (y20, .int), (k27, .object RX1)] s := hK
  refine W.widen (k := 24) (n := 1409) (Nat.le_of_ble_eq_true rfl) (Nat.le_of_ble_eq_true rfl) ?_
  refine va_putF (D := D) (ci := 9) (v := .ref q30) (ty := .object "LineCites$Numbering") (C := RX9) (T := TX9) (N := 14) hx hb hts (fun _ h => List.mem_cons_of_mem _ (List.mem_append_left _ (List.mem_append_left _ (List.mem_append_left _ (List.mem_append_left _ (List.mem_append_left _ (List.mem_append_left _ (List.mem_append_left _ (List.mem_append_right _ h))))))))) tyX9 tyX9_ok nmX9 hown hK hP hD hS 0 rfl rfl 7 (by decide) (hts (.fieldLink RX9 55 "LineCites" "other" "LLineCites$Numbering;") (List.mem_of_getElem? (i := 57) rfl)) (fun _ h9 => h9) rfl hin rfl (by decide +kernel) rfl rfl (Nat.le_of_ble_eq_true rfl) dX9_init_94 (fun H locs hP hD hS => ?_)
  have hP : va_P D vwCl [(h0, .inr (9, [.ref q1, .ref q5, .ref q13, .ref q21, .ref q23, .ref q26, .ref q28, .ref q30, .null, .null, .null, .null, .null, .null])), (q1, .inr (7, [.ref y3, .int 0, .int 0])), (y3, .inl (y4, 200, .inl (fun _ => 0))), (q5, .inr (8, [.ref y7, .ref y8, .ref y9, .ref y10, .ref y11, .int 0, .int 0, .int 0])), (y9, .inl (y12, 32, .inl (fun _ => 0))), (q13, .inr (8, [.ref y15, .ref y16, .ref y17, .ref y18, .ref y19, .int 0, .int 0, .int 0])), (y17, .inl (y20, 32, .inl (fun _ => 0))), (q21, .inr (4, [.ref q1, .ref q13, .int 0, .int 0, .int 0, .int 0, .int 0])), (q23, .inr (0, [.ref y25, .int 0, .int 0])), (q26, .inl (k27, 2, .inr (.inr (.inr (.inr (fun _ => none))))))] H := hP
  have hD : va_D A [(h0, .inr (9, [.ref q1, .ref q5, .ref q13, .ref q21, .ref q23, .ref q26, .ref q28, .ref q30, .null, .null, .null, .null, .null, .null])), (q1, .inr (7, [.ref y3, .int 0, .int 0])), (y3, .inl (y4, 200, .inl (fun _ => 0))), (q5, .inr (8, [.ref y7, .ref y8, .ref y9, .ref y10, .ref y11, .int 0, .int 0, .int 0])), (y9, .inl (y12, 32, .inl (fun _ => 0))), (q13, .inr (8, [.ref y15, .ref y16, .ref y17, .ref y18, .ref y19, .int 0, .int 0, .int 0])), (y17, .inl (y20, 32, .inl (fun _ => 0))), (q21, .inr (4, [.ref q1, .ref q13, .int 0, .int 0, .int 0, .int 0, .int 0])), (q23, .inr (0, [.ref y25, .int 0, .int 0])), (q26, .inl (k27, 2, .inr (.inr (.inr (.inr (fun _ => none))))))] := hD
  have hK : va_K D vwCl [(y4, .byte), (y12, .int), (y20, .int), (k27, .object RX1)] s := hK
  refine lv_aload_n hx hb dX9_init_97 rfl (lv_at hl 0 rfl) ?_
  refine va_new (ci := 3) (fs := [.null, .null, .int 0]) (C := RX3) (T := TX3) (N := 3) hx hb hts (fun _ h => List.mem_cons_of_mem _ (List.mem_append_left _ (List.mem_append_left _ (List.mem_append_left _ (List.mem_append_right _ h))))) tyX3 tyX3_ok hown (hts (.classLink RX9 48 RX3) (List.mem_of_getElem? (i := 48) rfl)) (hts (.instantiable RX3 3) (List.mem_of_getElem? (i := 49) rfl)) (hts (.initialized RX3) (List.mem_of_getElem? (i := 50) rfl)) hK hP hD hS hA rfl (fun j hj => by rcases (show j = 0 ∨ j = 1 ∨ j = 2 by omega) with rfl | rfl | rfl <;> rfl) (Nat.le_of_ble_eq_true rfl) (Nat.le_of_ble_eq_true rfl) dX9_init_98 (fun q32 H hP hD hS => ?_)
  have hP : va_P D vwCl [(h0, .inr (9, [.ref q1, .ref q5, .ref q13, .ref q21, .ref q23, .ref q26, .ref q28, .ref q30, .null, .null, .null, .null, .null, .null])), (q1, .inr (7, [.ref y3, .int 0, .int 0])), (y3, .inl (y4, 200, .inl (fun _ => 0))), (q5, .inr (8, [.ref y7, .ref y8, .ref y9, .ref y10, .ref y11, .int 0, .int 0, .int 0])), (y9, .inl (y12, 32, .inl (fun _ => 0))), (q13, .inr (8, [.ref y15, .ref y16, .ref y17, .ref y18, .ref y19, .int 0, .int 0, .int 0])), (y17, .inl (y20, 32, .inl (fun _ => 0))), (q21, .inr (4, [.ref q1, .ref q13, .int 0, .int 0, .int 0, .int 0, .int 0])), (q23, .inr (0, [.ref y25, .int 0, .int 0])), (q26, .inl (k27, 2, .inr (.inr (.inr (.inr (fun _ => none)))))), (q32, .inr (3, [.null, .null, .int 0]))] H := hP
  have hD : va_D A [(h0, .inr (9, [.ref q1, .ref q5, .ref q13, .ref q21, .ref q23, .ref q26, .ref q28, .ref q30, .null, .null, .null, .null, .null, .null])), (q1, .inr (7, [.ref y3, .int 0, .int 0])), (y3, .inl (y4, 200, .inl (fun _ => 0))), (q5, .inr (8, [.ref y7, .ref y8, .ref y9, .ref y10, .ref y11, .int 0, .int 0, .int 0])), (y9, .inl (y12, 32, .inl (fun _ => 0))), (q13, .inr (8, [.ref y15, .ref y16, .ref y17, .ref y18, .ref y19, .int 0, .int 0, .int 0])), (y17, .inl (y20, 32, .inl (fun _ => 0))), (q21, .inr (4, [.ref q1, .ref q13, .int 0, .int 0, .int 0, .int 0, .int 0])), (q23, .inr (0, [.ref y25, .int 0, .int 0])), (q26, .inl (k27, 2, .inr (.inr (.inr (.inr (fun _ => none)))))), (q32, .inr (3, [.null, .null, .int 0]))] := hD
  have hK : va_K D vwCl [(y4, .byte), (y12, .int), (y20, .int), (k27, .object RX1)] s := hK
  refine W.widen (k := 25) (n := 1412) (Nat.le_of_ble_eq_true rfl) (Nat.le_of_ble_eq_true rfl) ?_
  refine lv_dup hx hb dX9_init_101 rfl ?_
  have hPc := hP.sub (ws' := [(q32, .inr (3, [.null, .null, .int 0]))]) [10] rfl
  have hKc := hK.sub (tys' := []) [] rfl
  have hDc := hD.sub (ws' := [(q32, .inr (3, [.null, .null, .int 0]))]) [10] (by decide) rfl
  have hFc := va_free (wc := [(q32, .inr (3, [.null, .null, .int 0]))]) hD hS hA [10] rfl
  refine va_callv (va_runIN (As := []) (rest := [.ref q32, .ref h0]) ⟨hx, hb, hml, hown, hts⟩ (c_X3_init l D q32 H.size) ⟨va_cnB 0 hts g_X9_init_X3_init rfl rfl rfl hN9_50 (hts (.initialized RX3) (List.mem_of_getElem? (i := 50) rfl)) (by decide +kernel) ⟨Nat.le_of_ble_eq_true rfl, Nat.le_of_ble_eq_true rfl⟩, rfl, (hts (.instanceMethod yX3_init) (List.mem_of_getElem? (i := 51) rfl))⟩ ⟨fun a U g mk q => by obtain ⟨q0, q1, qP, qK, qD⟩ := q; exact ⟨q0, q1, qP, va_K.moved (u := U) (U := U.calling g mk a) (Vm.Alike.refl U.vm) qK, qD⟩, fun U hU hW => ⟨rfl, by rw [hU], by rw [hU]; exact hPc, va_K.moved hW.alike hKc, hDc.weaken (fun _ _ _ _ => trivial)⟩⟩ rfl rfl hl.1 rfl (lv_room (Nat.le_of_ble_eq_true rfl)) dX9_init_102 ⟨Nat.le_of_ble_eq_true rfl, Nat.le_of_ble_eq_true rfl⟩) hS (fun q _ h => hFc q h) hFc (fun u t H1 locs ht hvm hw hB hz1 hk1 hS => ?_)
  obtain ⟨hP1, hK1, hD1⟩ := hB
  rw [ht] at hP1
  have hK1 := va_K.moved hvm.symm hK1
  obtain ⟨hP, hD⟩ := va_join (wr := [(h0, .inr (9, [.ref q1, .ref q5, .ref q13, .ref q21, .ref q23, .ref q26, .ref q28, .ref q30, .null, .null, .null, .null, .null, .null])), (q1, .inr (7, [.ref y3, .int 0, .int 0])), (y3, .inl (y4, 200, .inl (fun _ => 0))), (q5, .inr (8, [.ref y7, .ref y8, .ref y9, .ref y10, .ref y11, .int 0, .int 0, .int 0])), (y9, .inl (y12, 32, .inl (fun _ => 0))), (q13, .inr (8, [.ref y15, .ref y16, .ref y17, .ref y18, .ref y19, .int 0, .int 0, .int 0])), (y17, .inl (y20, 32, .inl (fun _ => 0))), (q21, .inr (4, [.ref q1, .ref q13, .int 0, .int 0, .int 0, .int 0, .int 0])), (q23, .inr (0, [.ref y25, .int 0, .int 0])), (q26, .inl (k27, 2, .inr (.inr (.inr (.inr (fun _ => none))))))]) (w1 := []) hP hD [10] [0, 1, 2, 3, 4, 5, 6, 7, 8, 9] rfl rfl (by decide) (by decide) hk1 hFc hP1 hD1
  have hK := (hK.sub (tys' := [(y4, .byte), (y12, .int), (y20, .int), (k27, .object RX1)]) [0, 1, 2, 3] rfl).app hK1
  generalize H1 = H at hP hS ⊢
  have hP : va_P D vwCl [(h0, .inr (9, [.ref q1, .ref q5, .ref q13, .ref q21, .ref q23, .ref q26, .ref q28, .ref q30, .null, .null, .null, .null, .null, .null])), (q1, .inr (7, [.ref y3, .int 0, .int 0])), (y3, .inl (y4, 200, .inl (fun _ => 0))), (q5, .inr (8, [.ref y7, .ref y8, .ref y9, .ref y10, .ref y11, .int 0, .int 0, .int 0])), (y9, .inl (y12, 32, .inl (fun _ => 0))), (q13, .inr (8, [.ref y15, .ref y16, .ref y17, .ref y18, .ref y19, .int 0, .int 0, .int 0])), (y17, .inl (y20, 32, .inl (fun _ => 0))), (q21, .inr (4, [.ref q1, .ref q13, .int 0, .int 0, .int 0, .int 0, .int 0])), (q23, .inr (0, [.ref y25, .int 0, .int 0])), (q26, .inl (k27, 2, .inr (.inr (.inr (.inr (fun _ => none))))))] H := hP
  have hD : va_D A [(h0, .inr (9, [.ref q1, .ref q5, .ref q13, .ref q21, .ref q23, .ref q26, .ref q28, .ref q30, .null, .null, .null, .null, .null, .null])), (q1, .inr (7, [.ref y3, .int 0, .int 0])), (y3, .inl (y4, 200, .inl (fun _ => 0))), (q5, .inr (8, [.ref y7, .ref y8, .ref y9, .ref y10, .ref y11, .int 0, .int 0, .int 0])), (y9, .inl (y12, 32, .inl (fun _ => 0))), (q13, .inr (8, [.ref y15, .ref y16, .ref y17, .ref y18, .ref y19, .int 0, .int 0, .int 0])), (y17, .inl (y20, 32, .inl (fun _ => 0))), (q21, .inr (4, [.ref q1, .ref q13, .int 0, .int 0, .int 0, .int 0, .int 0])), (q23, .inr (0, [.ref y25, .int 0, .int 0])), (q26, .inl (k27, 2, .inr (.inr (.inr (.inr (fun _ => none))))))] := hD
  have hK : va_K D vwCl [(y4, .byte), (y12, .int), (y20, .int), (k27, .object RX1)] s := hK
  refine W.widen (k := 27) (n := 1812) (Nat.le_of_ble_eq_true rfl) (Nat.le_of_ble_eq_true rfl) ?_
  refine va_putF (D := D) (ci := 9) (v := .ref q32) (ty := .object "LineCites$Numbering") (C := RX9) (T := TX9) (N := 14) hx hb hts (fun _ h => List.mem_cons_of_mem _ (List.mem_append_left _ (List.mem_append_left _ (List.mem_append_left _ (List.mem_append_left _ (List.mem_append_left _ (List.mem_append_left _ (List.mem_append_left _ (List.mem_append_right _ h))))))))) tyX9 tyX9_ok nmX9 hown hK hP hD hS 0 rfl rfl 8 (by decide) (hts (.fieldLink RX9 58 "LineCites" "third" "LLineCites$Numbering;") (List.mem_of_getElem? (i := 58) rfl)) (fun _ h9 => h9) rfl hin rfl (by decide +kernel) rfl rfl (Nat.le_of_ble_eq_true rfl) dX9_init_105 (fun H locs hP hD hS => ?_)
  have hP : va_P D vwCl [(h0, .inr (9, [.ref q1, .ref q5, .ref q13, .ref q21, .ref q23, .ref q26, .ref q28, .ref q30, .ref q32, .null, .null, .null, .null, .null])), (q1, .inr (7, [.ref y3, .int 0, .int 0])), (y3, .inl (y4, 200, .inl (fun _ => 0))), (q5, .inr (8, [.ref y7, .ref y8, .ref y9, .ref y10, .ref y11, .int 0, .int 0, .int 0])), (y9, .inl (y12, 32, .inl (fun _ => 0))), (q13, .inr (8, [.ref y15, .ref y16, .ref y17, .ref y18, .ref y19, .int 0, .int 0, .int 0])), (y17, .inl (y20, 32, .inl (fun _ => 0))), (q21, .inr (4, [.ref q1, .ref q13, .int 0, .int 0, .int 0, .int 0, .int 0])), (q23, .inr (0, [.ref y25, .int 0, .int 0])), (q26, .inl (k27, 2, .inr (.inr (.inr (.inr (fun _ => none))))))] H := hP
  have hD : va_D A [(h0, .inr (9, [.ref q1, .ref q5, .ref q13, .ref q21, .ref q23, .ref q26, .ref q28, .ref q30, .ref q32, .null, .null, .null, .null, .null])), (q1, .inr (7, [.ref y3, .int 0, .int 0])), (y3, .inl (y4, 200, .inl (fun _ => 0))), (q5, .inr (8, [.ref y7, .ref y8, .ref y9, .ref y10, .ref y11, .int 0, .int 0, .int 0])), (y9, .inl (y12, 32, .inl (fun _ => 0))), (q13, .inr (8, [.ref y15, .ref y16, .ref y17, .ref y18, .ref y19, .int 0, .int 0, .int 0])), (y17, .inl (y20, 32, .inl (fun _ => 0))), (q21, .inr (4, [.ref q1, .ref q13, .int 0, .int 0, .int 0, .int 0, .int 0])), (q23, .inr (0, [.ref y25, .int 0, .int 0])), (q26, .inl (k27, 2, .inr (.inr (.inr (.inr (fun _ => none))))))] := hD
  have hK : va_K D vwCl [(y4, .byte), (y12, .int), (y20, .int), (k27, .object RX1)] s := hK
  refine lv_aload_n hx hb dX9_init_108 rfl (lv_at hl 0 rfl) ?_
  refine va_new (ci := 6) (fs := [.null, .null, .null, .int 0, .int 0, .int 0, .int 0, .int 0]) (C := RX6) (T := TX6) (N := 8) hx hb hts (fun _ h => List.mem_cons_of_mem _ (List.mem_append_left _ (List.mem_append_left _ (List.mem_append_right _ h)))) tyX6 tyX6_ok hown (hts (.classLink RX9 61 RX6) (List.mem_of_getElem? (i := 59) rfl)) (hts (.instantiable RX6 8) (List.mem_of_getElem? (i := 60) rfl)) (hts (.initialized RX6) (List.mem_of_getElem? (i := 61) rfl)) hK hP hD hS hA rfl (fun j hj => by rcases (show j = 0 ∨ j = 1 ∨ j = 2 ∨ j = 3 ∨ j = 4 ∨ j = 5 ∨ j = 6 ∨ j = 7 by omega) with rfl | rfl | rfl | rfl | rfl | rfl | rfl | rfl <;> rfl) (Nat.le_of_ble_eq_true rfl) (Nat.le_of_ble_eq_true rfl) dX9_init_109 (fun q34 H hP hD hS => ?_)
  have hP : va_P D vwCl [(h0, .inr (9, [.ref q1, .ref q5, .ref q13, .ref q21, .ref q23, .ref q26, .ref q28, .ref q30, .ref q32, .null, .null, .null, .null, .null])), (q1, .inr (7, [.ref y3, .int 0, .int 0])), (y3, .inl (y4, 200, .inl (fun _ => 0))), (q5, .inr (8, [.ref y7, .ref y8, .ref y9, .ref y10, .ref y11, .int 0, .int 0, .int 0])), (y9, .inl (y12, 32, .inl (fun _ => 0))), (q13, .inr (8, [.ref y15, .ref y16, .ref y17, .ref y18, .ref y19, .int 0, .int 0, .int 0])), (y17, .inl (y20, 32, .inl (fun _ => 0))), (q21, .inr (4, [.ref q1, .ref q13, .int 0, .int 0, .int 0, .int 0, .int 0])), (q23, .inr (0, [.ref y25, .int 0, .int 0])), (q26, .inl (k27, 2, .inr (.inr (.inr (.inr (fun _ => none)))))), (q34, .inr (6, [.null, .null, .null, .int 0, .int 0, .int 0, .int 0, .int 0]))] H := hP
  have hD : va_D A [(h0, .inr (9, [.ref q1, .ref q5, .ref q13, .ref q21, .ref q23, .ref q26, .ref q28, .ref q30, .ref q32, .null, .null, .null, .null, .null])), (q1, .inr (7, [.ref y3, .int 0, .int 0])), (y3, .inl (y4, 200, .inl (fun _ => 0))), (q5, .inr (8, [.ref y7, .ref y8, .ref y9, .ref y10, .ref y11, .int 0, .int 0, .int 0])), (y9, .inl (y12, 32, .inl (fun _ => 0))), (q13, .inr (8, [.ref y15, .ref y16, .ref y17, .ref y18, .ref y19, .int 0, .int 0, .int 0])), (y17, .inl (y20, 32, .inl (fun _ => 0))), (q21, .inr (4, [.ref q1, .ref q13, .int 0, .int 0, .int 0, .int 0, .int 0])), (q23, .inr (0, [.ref y25, .int 0, .int 0])), (q26, .inl (k27, 2, .inr (.inr (.inr (.inr (fun _ => none)))))), (q34, .inr (6, [.null, .null, .null, .int 0, .int 0, .int 0, .int 0, .int 0]))] := hD
  have hK : va_K D vwCl [(y4, .byte), (y12, .int), (y20, .int), (k27, .object RX1)] s := hK
  refine W.widen (k := 28) (n := 1820) (Nat.le_of_ble_eq_true rfl) (Nat.le_of_ble_eq_true rfl) ?_
  refine lv_dup hx hb dX9_init_112 rfl ?_
  have hPc := hP.sub (ws' := [(q34, .inr (6, [.null, .null, .null, .int 0, .int 0, .int 0, .int 0, .int 0]))]) [10] rfl
  have hKc := hK.sub (tys' := []) [] rfl
  have hDc := hD.sub (ws' := [(q34, .inr (6, [.null, .null, .null, .int 0, .int 0, .int 0, .int 0, .int 0]))]) [10] (by decide) rfl
  have hFc := va_free (wc := [(q34, .inr (6, [.null, .null, .null, .int 0, .int 0, .int 0, .int 0, .int 0]))]) hD hS hA [10] rfl
  refine va_callv (va_runIN (As := []) (rest := [.ref q34, .ref h0]) ⟨hx, hb, hml, hown, hts⟩ (c_X6_init l D q34 H.size) ⟨va_cnB 0 hts g_X9_init_X6_init rfl rfl rfl hN9_63 (hts (.initialized RX6) (List.mem_of_getElem? (i := 61) rfl)) (by decide +kernel) ⟨Nat.le_of_ble_eq_true rfl, Nat.le_of_ble_eq_true rfl⟩, rfl, (hts (.instanceMethod yX6_init) (List.mem_of_getElem? (i := 62) rfl))⟩ ⟨fun a U g mk q => by obtain ⟨q0, q1, qP, qK, qD⟩ := q; exact ⟨q0, q1, qP, va_K.moved (u := U) (U := U.calling g mk a) (Vm.Alike.refl U.vm) qK, qD⟩, fun U hU hW => ⟨rfl, by rw [hU], by rw [hU]; exact hPc, va_K.moved hW.alike hKc, hDc.weaken (fun _ _ _ _ => trivial)⟩⟩ rfl rfl hl.1 rfl (lv_room (Nat.le_of_ble_eq_true rfl)) dX9_init_113 ⟨Nat.le_of_ble_eq_true rfl, Nat.le_of_ble_eq_true rfl⟩) hS (fun q _ h => hFc q h) hFc (fun u t H1 locs ht hvm hw hB hz1 hk1 hS => ?_)
  obtain ⟨hP1, hK1, hD1⟩ := hB
  rw [ht] at hP1
  have hK1 := va_K.moved hvm.symm hK1
  obtain ⟨hP, hD⟩ := va_join (wr := [(h0, .inr (9, [.ref q1, .ref q5, .ref q13, .ref q21, .ref q23, .ref q26, .ref q28, .ref q30, .ref q32, .null, .null, .null, .null, .null])), (q1, .inr (7, [.ref y3, .int 0, .int 0])), (y3, .inl (y4, 200, .inl (fun _ => 0))), (q5, .inr (8, [.ref y7, .ref y8, .ref y9, .ref y10, .ref y11, .int 0, .int 0, .int 0])), (y9, .inl (y12, 32, .inl (fun _ => 0))), (q13, .inr (8, [.ref y15, .ref y16, .ref y17, .ref y18, .ref y19, .int 0, .int 0, .int 0])), (y17, .inl (y20, 32, .inl (fun _ => 0))), (q21, .inr (4, [.ref q1, .ref q13, .int 0, .int 0, .int 0, .int 0, .int 0])), (q23, .inr (0, [.ref y25, .int 0, .int 0])), (q26, .inl (k27, 2, .inr (.inr (.inr (.inr (fun _ => none))))))]) (w1 := []) hP hD [10] [0, 1, 2, 3, 4, 5, 6, 7, 8, 9] rfl rfl (by decide) (by decide) hk1 hFc hP1 hD1
  have hK := (hK.sub (tys' := [(y4, .byte), (y12, .int), (y20, .int), (k27, .object RX1)]) [0, 1, 2, 3] rfl).app hK1
  generalize H1 = H at hP hS ⊢
  have hP : va_P D vwCl [(h0, .inr (9, [.ref q1, .ref q5, .ref q13, .ref q21, .ref q23, .ref q26, .ref q28, .ref q30, .ref q32, .null, .null, .null, .null, .null])), (q1, .inr (7, [.ref y3, .int 0, .int 0])), (y3, .inl (y4, 200, .inl (fun _ => 0))), (q5, .inr (8, [.ref y7, .ref y8, .ref y9, .ref y10, .ref y11, .int 0, .int 0, .int 0])), (y9, .inl (y12, 32, .inl (fun _ => 0))), (q13, .inr (8, [.ref y15, .ref y16, .ref y17, .ref y18, .ref y19, .int 0, .int 0, .int 0])), (y17, .inl (y20, 32, .inl (fun _ => 0))), (q21, .inr (4, [.ref q1, .ref q13, .int 0, .int 0, .int 0, .int 0, .int 0])), (q23, .inr (0, [.ref y25, .int 0, .int 0])), (q26, .inl (k27, 2, .inr (.inr (.inr (.inr (fun _ => none))))))] H := hP
  have hD : va_D A [(h0, .inr (9, [.ref q1, .ref q5, .ref q13, .ref q21, .ref q23, .ref q26, .ref q28, .ref q30, .ref q32, .null, .null, .null, .null, .null])), (q1, .inr (7, [.ref y3, .int 0, .int 0])), (y3, .inl (y4, 200, .inl (fun _ => 0))), (q5, .inr (8, [.ref y7, .ref y8, .ref y9, .ref y10, .ref y11, .int 0, .int 0, .int 0])), (y9, .inl (y12, 32, .inl (fun _ => 0))), (q13, .inr (8, [.ref y15, .ref y16, .ref y17, .ref y18, .ref y19, .int 0, .int 0, .int 0])), (y17, .inl (y20, 32, .inl (fun _ => 0))), (q21, .inr (4, [.ref q1, .ref q13, .int 0, .int 0, .int 0, .int 0, .int 0])), (q23, .inr (0, [.ref y25, .int 0, .int 0])), (q26, .inl (k27, 2, .inr (.inr (.inr (.inr (fun _ => none))))))] := hD
  have hK : va_K D vwCl [(y4, .byte), (y12, .int), (y20, .int), (k27, .object RX1)] s := hK
  refine W.widen (k := 31) (n := 4820) (Nat.le_of_ble_eq_true rfl) (Nat.le_of_ble_eq_true rfl) ?_
  refine va_putF (D := D) (ci := 9) (v := .ref q34) (ty := .object "LineCites$Spans") (C := RX9) (T := TX9) (N := 14) hx hb hts (fun _ h => List.mem_cons_of_mem _ (List.mem_append_left _ (List.mem_append_left _ (List.mem_append_left _ (List.mem_append_left _ (List.mem_append_left _ (List.mem_append_left _ (List.mem_append_left _ (List.mem_append_right _ h))))))))) tyX9 tyX9_ok nmX9 hown hK hP hD hS 0 rfl rfl 9 (by decide) (hts (.fieldLink RX9 64 "LineCites" "spans" "LLineCites$Spans;") (List.mem_of_getElem? (i := 68) rfl)) (fun _ h9 => h9) rfl hin rfl (by decide +kernel) rfl rfl (Nat.le_of_ble_eq_true rfl) dX9_init_116 (fun H locs hP hD hS => ?_)
  have hP : va_P D vwCl [(h0, .inr (9, [.ref q1, .ref q5, .ref q13, .ref q21, .ref q23, .ref q26, .ref q28, .ref q30, .ref q32, .ref q34, .null, .null, .null, .null])), (q1, .inr (7, [.ref y3, .int 0, .int 0])), (y3, .inl (y4, 200, .inl (fun _ => 0))), (q5, .inr (8, [.ref y7, .ref y8, .ref y9, .ref y10, .ref y11, .int 0, .int 0, .int 0])), (y9, .inl (y12, 32, .inl (fun _ => 0))), (q13, .inr (8, [.ref y15, .ref y16, .ref y17, .ref y18, .ref y19, .int 0, .int 0, .int 0])), (y17, .inl (y20, 32, .inl (fun _ => 0))), (q21, .inr (4, [.ref q1, .ref q13, .int 0, .int 0, .int 0, .int 0, .int 0])), (q23, .inr (0, [.ref y25, .int 0, .int 0])), (q26, .inl (k27, 2, .inr (.inr (.inr (.inr (fun _ => none))))))] H := hP
  have hD : va_D A [(h0, .inr (9, [.ref q1, .ref q5, .ref q13, .ref q21, .ref q23, .ref q26, .ref q28, .ref q30, .ref q32, .ref q34, .null, .null, .null, .null])), (q1, .inr (7, [.ref y3, .int 0, .int 0])), (y3, .inl (y4, 200, .inl (fun _ => 0))), (q5, .inr (8, [.ref y7, .ref y8, .ref y9, .ref y10, .ref y11, .int 0, .int 0, .int 0])), (y9, .inl (y12, 32, .inl (fun _ => 0))), (q13, .inr (8, [.ref y15, .ref y16, .ref y17, .ref y18, .ref y19, .int 0, .int 0, .int 0])), (y17, .inl (y20, 32, .inl (fun _ => 0))), (q21, .inr (4, [.ref q1, .ref q13, .int 0, .int 0, .int 0, .int 0, .int 0])), (q23, .inr (0, [.ref y25, .int 0, .int 0])), (q26, .inl (k27, 2, .inr (.inr (.inr (.inr (fun _ => none))))))] := hD
  have hK : va_K D vwCl [(y4, .byte), (y12, .int), (y20, .int), (k27, .object RX1)] s := hK
  refine lv_aload_n hx hb dX9_init_119 rfl (lv_at hl 0 rfl) ?_
  refine va_new (ci := 6) (fs := [.null, .null, .null, .int 0, .int 0, .int 0, .int 0, .int 0]) (C := RX6) (T := TX6) (N := 8) hx hb hts (fun _ h => List.mem_cons_of_mem _ (List.mem_append_left _ (List.mem_append_left _ (List.mem_append_right _ h)))) tyX6 tyX6_ok hown (hts (.classLink RX9 61 RX6) (List.mem_of_getElem? (i := 59) rfl)) (hts (.instantiable RX6 8) (List.mem_of_getElem? (i := 60) rfl)) (hts (.initialized RX6) (List.mem_of_getElem? (i := 61) rfl)) hK hP hD hS hA rfl (fun j hj => by rcases (show j = 0 ∨ j = 1 ∨ j = 2 ∨ j = 3 ∨ j = 4 ∨ j = 5 ∨ j = 6 ∨ j = 7 by omega) with rfl | rfl | rfl | rfl | rfl | rfl | rfl | rfl <;> rfl) (Nat.le_of_ble_eq_true rfl) (Nat.le_of_ble_eq_true rfl) dX9_init_120 (fun q36 H hP hD hS => ?_)
  have hP : va_P D vwCl [(h0, .inr (9, [.ref q1, .ref q5, .ref q13, .ref q21, .ref q23, .ref q26, .ref q28, .ref q30, .ref q32, .ref q34, .null, .null, .null, .null])), (q1, .inr (7, [.ref y3, .int 0, .int 0])), (y3, .inl (y4, 200, .inl (fun _ => 0))), (q5, .inr (8, [.ref y7, .ref y8, .ref y9, .ref y10, .ref y11, .int 0, .int 0, .int 0])), (y9, .inl (y12, 32, .inl (fun _ => 0))), (q13, .inr (8, [.ref y15, .ref y16, .ref y17, .ref y18, .ref y19, .int 0, .int 0, .int 0])), (y17, .inl (y20, 32, .inl (fun _ => 0))), (q21, .inr (4, [.ref q1, .ref q13, .int 0, .int 0, .int 0, .int 0, .int 0])), (q23, .inr (0, [.ref y25, .int 0, .int 0])), (q26, .inl (k27, 2, .inr (.inr (.inr (.inr (fun _ => none)))))), (q36, .inr (6, [.null, .null, .null, .int 0, .int 0, .int 0, .int 0, .int 0]))] H := hP
  have hD : va_D A [(h0, .inr (9, [.ref q1, .ref q5, .ref q13, .ref q21, .ref q23, .ref q26, .ref q28, .ref q30, .ref q32, .ref q34, .null, .null, .null, .null])), (q1, .inr (7, [.ref y3, .int 0, .int 0])), (y3, .inl (y4, 200, .inl (fun _ => 0))), (q5, .inr (8, [.ref y7, .ref y8, .ref y9, .ref y10, .ref y11, .int 0, .int 0, .int 0])), (y9, .inl (y12, 32, .inl (fun _ => 0))), (q13, .inr (8, [.ref y15, .ref y16, .ref y17, .ref y18, .ref y19, .int 0, .int 0, .int 0])), (y17, .inl (y20, 32, .inl (fun _ => 0))), (q21, .inr (4, [.ref q1, .ref q13, .int 0, .int 0, .int 0, .int 0, .int 0])), (q23, .inr (0, [.ref y25, .int 0, .int 0])), (q26, .inl (k27, 2, .inr (.inr (.inr (.inr (fun _ => none)))))), (q36, .inr (6, [.null, .null, .null, .int 0, .int 0, .int 0, .int 0, .int 0]))] := hD
  have hK : va_K D vwCl [(y4, .byte), (y12, .int), (y20, .int), (k27, .object RX1)] s := hK
  refine W.widen (k := 32) (n := 4828) (Nat.le_of_ble_eq_true rfl) (Nat.le_of_ble_eq_true rfl) ?_
  refine lv_dup hx hb dX9_init_123 rfl ?_
  have hPc := hP.sub (ws' := [(q36, .inr (6, [.null, .null, .null, .int 0, .int 0, .int 0, .int 0, .int 0]))]) [10] rfl
  have hKc := hK.sub (tys' := []) [] rfl
  have hDc := hD.sub (ws' := [(q36, .inr (6, [.null, .null, .null, .int 0, .int 0, .int 0, .int 0, .int 0]))]) [10] (by decide) rfl
  have hFc := va_free (wc := [(q36, .inr (6, [.null, .null, .null, .int 0, .int 0, .int 0, .int 0, .int 0]))]) hD hS hA [10] rfl
  refine va_callv (va_runIN (As := []) (rest := [.ref q36, .ref h0]) ⟨hx, hb, hml, hown, hts⟩ (c_X6_init l D q36 H.size) ⟨va_cnB 0 hts g_X9_init_X6_init rfl rfl rfl hN9_63 (hts (.initialized RX6) (List.mem_of_getElem? (i := 61) rfl)) (by decide +kernel) ⟨Nat.le_of_ble_eq_true rfl, Nat.le_of_ble_eq_true rfl⟩, rfl, (hts (.instanceMethod yX6_init) (List.mem_of_getElem? (i := 62) rfl))⟩ ⟨fun a U g mk q => by obtain ⟨q0, q1, qP, qK, qD⟩ := q; exact ⟨q0, q1, qP, va_K.moved (u := U) (U := U.calling g mk a) (Vm.Alike.refl U.vm) qK, qD⟩, fun U hU hW => ⟨rfl, by rw [hU], by rw [hU]; exact hPc, va_K.moved hW.alike hKc, hDc.weaken (fun _ _ _ _ => trivial)⟩⟩ rfl rfl hl.1 rfl (lv_room (Nat.le_of_ble_eq_true rfl)) dX9_init_124 ⟨Nat.le_of_ble_eq_true rfl, Nat.le_of_ble_eq_true rfl⟩) hS (fun q _ h => hFc q h) hFc (fun u t H1 locs ht hvm hw hB hz1 hk1 hS => ?_)
  obtain ⟨hP1, hK1, hD1⟩ := hB
  rw [ht] at hP1
  have hK1 := va_K.moved hvm.symm hK1
  obtain ⟨hP, hD⟩ := va_join (wr := [(h0, .inr (9, [.ref q1, .ref q5, .ref q13, .ref q21, .ref q23, .ref q26, .ref q28, .ref q30, .ref q32, .ref q34, .null, .null, .null, .null])), (q1, .inr (7, [.ref y3, .int 0, .int 0])), (y3, .inl (y4, 200, .inl (fun _ => 0))), (q5, .inr (8, [.ref y7, .ref y8, .ref y9, .ref y10, .ref y11, .int 0, .int 0, .int 0])), (y9, .inl (y12, 32, .inl (fun _ => 0))), (q13, .inr (8, [.ref y15, .ref y16, .ref y17, .ref y18, .ref y19, .int 0, .int 0, .int 0])), (y17, .inl (y20, 32, .inl (fun _ => 0))), (q21, .inr (4, [.ref q1, .ref q13, .int 0, .int 0, .int 0, .int 0, .int 0])), (q23, .inr (0, [.ref y25, .int 0, .int 0])), (q26, .inl (k27, 2, .inr (.inr (.inr (.inr (fun _ => none))))))]) (w1 := []) hP hD [10] [0, 1, 2, 3, 4, 5, 6, 7, 8, 9] rfl rfl (by decide) (by decide) hk1 hFc hP1 hD1
  have hK := (hK.sub (tys' := [(y4, .byte), (y12, .int), (y20, .int), (k27, .object RX1)]) [0, 1, 2, 3] rfl).app hK1
  generalize H1 = H at hP hS ⊢
  have hP : va_P D vwCl [(h0, .inr (9, [.ref q1, .ref q5, .ref q13, .ref q21, .ref q23, .ref q26, .ref q28, .ref q30, .ref q32, .ref q34, .null, .null, .null, .null])), (q1, .inr (7, [.ref y3, .int 0, .int 0])), (y3, .inl (y4, 200, .inl (fun _ => 0))), (q5, .inr (8, [.ref y7, .ref y8, .ref y9, .ref y10, .ref y11, .int 0, .int 0, .int 0])), (y9, .inl (y12, 32, .inl (fun _ => 0))), (q13, .inr (8, [.ref y15, .ref y16, .ref y17, .ref y18, .ref y19, .int 0, .int 0, .int 0])), (y17, .inl (y20, 32, .inl (fun _ => 0))), (q21, .inr (4, [.ref q1, .ref q13, .int 0, .int 0, .int 0, .int 0, .int 0])), (q23, .inr (0, [.ref y25, .int 0, .int 0])), (q26, .inl (k27, 2, .inr (.inr (.inr (.inr (fun _ => none))))))] H := hP
  have hD : va_D A [(h0, .inr (9, [.ref q1, .ref q5, .ref q13, .ref q21, .ref q23, .ref q26, .ref q28, .ref q30, .ref q32, .ref q34, .null, .null, .null, .null])), (q1, .inr (7, [.ref y3, .int 0, .int 0])), (y3, .inl (y4, 200, .inl (fun _ => 0))), (q5, .inr (8, [.ref y7, .ref y8, .ref y9, .ref y10, .ref y11, .int 0, .int 0, .int 0])), (y9, .inl (y12, 32, .inl (fun _ => 0))), (q13, .inr (8, [.ref y15, .ref y16, .ref y17, .ref y18, .ref y19, .int 0, .int 0, .int 0])), (y17, .inl (y20, 32, .inl (fun _ => 0))), (q21, .inr (4, [.ref q1, .ref q13, .int 0, .int 0, .int 0, .int 0, .int 0])), (q23, .inr (0, [.ref y25, .int 0, .int 0])), (q26, .inl (k27, 2, .inr (.inr (.inr (.inr (fun _ => none))))))] := hD
  have hK : va_K D vwCl [(y4, .byte), (y12, .int), (y20, .int), (k27, .object RX1)] s := hK
  refine W.widen (k := 35) (n := 7828) (Nat.le_of_ble_eq_true rfl) (Nat.le_of_ble_eq_true rfl) ?_
  refine va_putF (D := D) (ci := 9) (v := .ref q36) (ty := .object "LineCites$Spans") (C := RX9) (T := TX9) (N := 14) hx hb hts (fun _ h => List.mem_cons_of_mem _ (List.mem_append_left _ (List.mem_append_left _ (List.mem_append_left _ (List.mem_append_left _ (List.mem_append_left _ (List.mem_append_left _ (List.mem_append_left _ (List.mem_append_right _ h))))))))) tyX9 tyX9_ok nmX9 hown hK hP hD hS 0 rfl rfl 10 (by decide) (hts (.fieldLink RX9 68 "LineCites" "back" "LLineCites$Spans;") (List.mem_of_getElem? (i := 69) rfl)) (fun _ h9 => h9) rfl hin rfl (by decide +kernel) rfl rfl (Nat.le_of_ble_eq_true rfl) dX9_init_127 (fun H locs hP hD hS => ?_)
  have hP : va_P D vwCl [(h0, .inr (9, [.ref q1, .ref q5, .ref q13, .ref q21, .ref q23, .ref q26, .ref q28, .ref q30, .ref q32, .ref q34, .ref q36, .null, .null, .null])), (q1, .inr (7, [.ref y3, .int 0, .int 0])), (y3, .inl (y4, 200, .inl (fun _ => 0))), (q5, .inr (8, [.ref y7, .ref y8, .ref y9, .ref y10, .ref y11, .int 0, .int 0, .int 0])), (y9, .inl (y12, 32, .inl (fun _ => 0))), (q13, .inr (8, [.ref y15, .ref y16, .ref y17, .ref y18, .ref y19, .int 0, .int 0, .int 0])), (y17, .inl (y20, 32, .inl (fun _ => 0))), (q21, .inr (4, [.ref q1, .ref q13, .int 0, .int 0, .int 0, .int 0, .int 0])), (q23, .inr (0, [.ref y25, .int 0, .int 0])), (q26, .inl (k27, 2, .inr (.inr (.inr (.inr (fun _ => none))))))] H := hP
  have hD : va_D A [(h0, .inr (9, [.ref q1, .ref q5, .ref q13, .ref q21, .ref q23, .ref q26, .ref q28, .ref q30, .ref q32, .ref q34, .ref q36, .null, .null, .null])), (q1, .inr (7, [.ref y3, .int 0, .int 0])), (y3, .inl (y4, 200, .inl (fun _ => 0))), (q5, .inr (8, [.ref y7, .ref y8, .ref y9, .ref y10, .ref y11, .int 0, .int 0, .int 0])), (y9, .inl (y12, 32, .inl (fun _ => 0))), (q13, .inr (8, [.ref y15, .ref y16, .ref y17, .ref y18, .ref y19, .int 0, .int 0, .int 0])), (y17, .inl (y20, 32, .inl (fun _ => 0))), (q21, .inr (4, [.ref q1, .ref q13, .int 0, .int 0, .int 0, .int 0, .int 0])), (q23, .inr (0, [.ref y25, .int 0, .int 0])), (q26, .inl (k27, 2, .inr (.inr (.inr (.inr (fun _ => none))))))] := hD
  have hK : va_K D vwCl [(y4, .byte), (y12, .int), (y20, .int), (k27, .object RX1)] s := hK
  refine lv_aload_n hx hb dX9_init_130 rfl (lv_at hl 0 rfl) ?_
  refine va_new (ci := 5) (fs := [.int 0, .int 0, .int 0]) (C := RX5) (T := TX5) (N := 3) hx hb hts (fun _ h => List.mem_cons_of_mem _ (List.mem_append_left _ (List.mem_append_right _ h))) tyX5 tyX5_ok hown (hts (.classLink RX9 71 RX5) (List.mem_of_getElem? (i := 70) rfl)) (hts (.instantiable RX5 3) (List.mem_of_getElem? (i := 71) rfl)) (hts (.initialized RX5) (List.mem_of_getElem? (i := 72) rfl)) hK hP hD hS hA rfl (fun j hj => by rcases (show j = 0 ∨ j = 1 ∨ j = 2 by omega) with rfl | rfl | rfl <;> rfl) (Nat.le_of_ble_eq_true rfl) (Nat.le_of_ble_eq_true rfl) dX9_init_131 (fun q38 H hP hD hS => ?_)
  have hP : va_P D vwCl [(h0, .inr (9, [.ref q1, .ref q5, .ref q13, .ref q21, .ref q23, .ref q26, .ref q28, .ref q30, .ref q32, .ref q34, .ref q36, .null, .null, .null])), (q1, .inr (7, [.ref y3, .int 0, .int 0])), (y3, .inl (y4, 200, .inl (fun _ => 0))), (q5, .inr (8, [.ref y7, .ref y8, .ref y9, .ref y10, .ref y11, .int 0, .int 0, .int 0])), (y9, .inl (y12, 32, .inl (fun _ => 0))), (q13, .inr (8, [.ref y15, .ref y16, .ref y17, .ref y18, .ref y19, .int 0, .int 0, .int 0])), (y17, .inl (y20, 32, .inl (fun _ => 0))), (q21, .inr (4, [.ref q1, .ref q13, .int 0, .int 0, .int 0, .int 0, .int 0])), (q23, .inr (0, [.ref y25, .int 0, .int 0])), (q26, .inl (k27, 2, .inr (.inr (.inr (.inr (fun _ => none)))))), (q38, .inr (5, [.int 0, .int 0, .int 0]))] H := hP
  have hD : va_D A [(h0, .inr (9, [.ref q1, .ref q5, .ref q13, .ref q21, .ref q23, .ref q26, .ref q28, .ref q30, .ref q32, .ref q34, .ref q36, .null, .null, .null])), (q1, .inr (7, [.ref y3, .int 0, .int 0])), (y3, .inl (y4, 200, .inl (fun _ => 0))), (q5, .inr (8, [.ref y7, .ref y8, .ref y9, .ref y10, .ref y11, .int 0, .int 0, .int 0])), (y9, .inl (y12, 32, .inl (fun _ => 0))), (q13, .inr (8, [.ref y15, .ref y16, .ref y17, .ref y18, .ref y19, .int 0, .int 0, .int 0])), (y17, .inl (y20, 32, .inl (fun _ => 0))), (q21, .inr (4, [.ref q1, .ref q13, .int 0, .int 0, .int 0, .int 0, .int 0])), (q23, .inr (0, [.ref y25, .int 0, .int 0])), (q26, .inl (k27, 2, .inr (.inr (.inr (.inr (fun _ => none)))))), (q38, .inr (5, [.int 0, .int 0, .int 0]))] := hD
  have hK : va_K D vwCl [(y4, .byte), (y12, .int), (y20, .int), (k27, .object RX1)] s := hK
  refine W.widen (k := 36) (n := 7831) (Nat.le_of_ble_eq_true rfl) (Nat.le_of_ble_eq_true rfl) ?_
  refine lv_dup hx hb dX9_init_134 rfl ?_
  have hPc := hP.sub (ws' := [(q38, .inr (5, [.int 0, .int 0, .int 0]))]) [10] rfl
  have hKc := hK.sub (tys' := []) [] rfl
  have hDc := hD.sub (ws' := [(q38, .inr (5, [.int 0, .int 0, .int 0]))]) [10] (by decide) rfl
  have hFc := va_free (wc := [(q38, .inr (5, [.int 0, .int 0, .int 0]))]) hD hS hA [10] rfl
  refine va_callv (va_runIN (As := []) (rest := [.ref q38, .ref h0]) ⟨hx, hb, hml, hown, hts⟩ (c_X5_init l D q38 H.size) ⟨va_cnB 0 hts g_X9_init_X5_init rfl rfl rfl hN9_73 (hts (.initialized RX5) (List.mem_of_getElem? (i := 72) rfl)) (by decide +kernel) ⟨Nat.le_of_ble_eq_true rfl, Nat.le_of_ble_eq_true rfl⟩, rfl, (hts (.instanceMethod yX5_init) (List.mem_of_getElem? (i := 73) rfl))⟩ ⟨fun a U g mk q => by obtain ⟨q0, q1, qP, qK, qD⟩ := q; exact ⟨q0, q1, qP, va_K.moved (u := U) (U := U.calling g mk a) (Vm.Alike.refl U.vm) qK, qD⟩, fun U hU hW => ⟨rfl, by rw [hU], by rw [hU]; exact hPc, va_K.moved hW.alike hKc, hDc.weaken (fun _ _ _ _ => trivial)⟩⟩ rfl rfl hl.1 rfl (lv_room (Nat.le_of_ble_eq_true rfl)) dX9_init_135 ⟨Nat.le_of_ble_eq_true rfl, Nat.le_of_ble_eq_true rfl⟩) hS (fun q _ h => hFc q h) hFc (fun u t H1 locs ht hvm hw hB hz1 hk1 hS => ?_)
  obtain ⟨hP1, hK1, hD1⟩ := hB
  rw [ht] at hP1
  have hK1 := va_K.moved hvm.symm hK1
  obtain ⟨hP, hD⟩ := va_join (wr := [(h0, .inr (9, [.ref q1, .ref q5, .ref q13, .ref q21, .ref q23, .ref q26, .ref q28, .ref q30, .ref q32, .ref q34, .ref q36, .null, .null, .null])), (q1, .inr (7, [.ref y3, .int 0, .int 0])), (y3, .inl (y4, 200, .inl (fun _ => 0))), (q5, .inr (8, [.ref y7, .ref y8, .ref y9, .ref y10, .ref y11, .int 0, .int 0, .int 0])), (y9, .inl (y12, 32, .inl (fun _ => 0))), (q13, .inr (8, [.ref y15, .ref y16, .ref y17, .ref y18, .ref y19, .int 0, .int 0, .int 0])), (y17, .inl (y20, 32, .inl (fun _ => 0))), (q21, .inr (4, [.ref q1, .ref q13, .int 0, .int 0, .int 0, .int 0, .int 0])), (q23, .inr (0, [.ref y25, .int 0, .int 0])), (q26, .inl (k27, 2, .inr (.inr (.inr (.inr (fun _ => none))))))]) (w1 := []) hP hD [10] [0, 1, 2, 3, 4, 5, 6, 7, 8, 9] rfl rfl (by decide) (by decide) hk1 hFc hP1 hD1
  have hK := (hK.sub (tys' := [(y4, .byte), (y12, .int), (y20, .int), (k27, .object RX1)]) [0, 1, 2, 3] rfl).app hK1
  generalize H1 = H at hP hS ⊢
  have hP : va_P D vwCl [(h0, .inr (9, [.ref q1, .ref q5, .ref q13, .ref q21, .ref q23, .ref q26, .ref q28, .ref q30, .ref q32, .ref q34, .ref q36, .null, .null, .null])), (q1, .inr (7, [.ref y3, .int 0, .int 0])), (y3, .inl (y4, 200, .inl (fun _ => 0))), (q5, .inr (8, [.ref y7, .ref y8, .ref y9, .ref y10, .ref y11, .int 0, .int 0, .int 0])), (y9, .inl (y12, 32, .inl (fun _ => 0))), (q13, .inr (8, [.ref y15, .ref y16, .ref y17, .ref y18, .ref y19, .int 0, .int 0, .int 0])), (y17, .inl (y20, 32, .inl (fun _ => 0))), (q21, .inr (4, [.ref q1, .ref q13, .int 0, .int 0, .int 0, .int 0, .int 0])), (q23, .inr (0, [.ref y25, .int 0, .int 0])), (q26, .inl (k27, 2, .inr (.inr (.inr (.inr (fun _ => none))))))] H := hP
  have hD : va_D A [(h0, .inr (9, [.ref q1, .ref q5, .ref q13, .ref q21, .ref q23, .ref q26, .ref q28, .ref q30, .ref q32, .ref q34, .ref q36, .null, .null, .null])), (q1, .inr (7, [.ref y3, .int 0, .int 0])), (y3, .inl (y4, 200, .inl (fun _ => 0))), (q5, .inr (8, [.ref y7, .ref y8, .ref y9, .ref y10, .ref y11, .int 0, .int 0, .int 0])), (y9, .inl (y12, 32, .inl (fun _ => 0))), (q13, .inr (8, [.ref y15, .ref y16, .ref y17, .ref y18, .ref y19, .int 0, .int 0, .int 0])), (y17, .inl (y20, 32, .inl (fun _ => 0))), (q21, .inr (4, [.ref q1, .ref q13, .int 0, .int 0, .int 0, .int 0, .int 0])), (q23, .inr (0, [.ref y25, .int 0, .int 0])), (q26, .inl (k27, 2, .inr (.inr (.inr (.inr (fun _ => none))))))] := hD
  have hK : va_K D vwCl [(y4, .byte), (y12, .int), (y20, .int), (k27, .object RX1)] s := hK
  refine W.widen (k := 36) (n := 7831) (Nat.le_of_ble_eq_true rfl) (Nat.le_of_ble_eq_true rfl) ?_
  refine va_putF (D := D) (ci := 9) (v := .ref q38) (ty := .object "LineCites$Span") (C := RX9) (T := TX9) (N := 14) hx hb hts (fun _ h => List.mem_cons_of_mem _ (List.mem_append_left _ (List.mem_append_left _ (List.mem_append_left _ (List.mem_append_left _ (List.mem_append_left _ (List.mem_append_left _ (List.mem_append_left _ (List.mem_append_right _ h))))))))) tyX9 tyX9_ok nmX9 hown hK hP hD hS 0 rfl rfl 11 (by decide) (hts (.fieldLink RX9 74 "LineCites" "span" "LLineCites$Span;") (List.mem_of_getElem? (i := 76) rfl)) (fun _ h9 => h9) rfl hin rfl (by decide +kernel) rfl rfl (Nat.le_of_ble_eq_true rfl) dX9_init_138 (fun H locs hP hD hS => ?_)
  have hP : va_P D vwCl [(h0, .inr (9, [.ref q1, .ref q5, .ref q13, .ref q21, .ref q23, .ref q26, .ref q28, .ref q30, .ref q32, .ref q34, .ref q36, .ref q38, .null, .null])), (q1, .inr (7, [.ref y3, .int 0, .int 0])), (y3, .inl (y4, 200, .inl (fun _ => 0))), (q5, .inr (8, [.ref y7, .ref y8, .ref y9, .ref y10, .ref y11, .int 0, .int 0, .int 0])), (y9, .inl (y12, 32, .inl (fun _ => 0))), (q13, .inr (8, [.ref y15, .ref y16, .ref y17, .ref y18, .ref y19, .int 0, .int 0, .int 0])), (y17, .inl (y20, 32, .inl (fun _ => 0))), (q21, .inr (4, [.ref q1, .ref q13, .int 0, .int 0, .int 0, .int 0, .int 0])), (q23, .inr (0, [.ref y25, .int 0, .int 0])), (q26, .inl (k27, 2, .inr (.inr (.inr (.inr (fun _ => none))))))] H := hP
  have hD : va_D A [(h0, .inr (9, [.ref q1, .ref q5, .ref q13, .ref q21, .ref q23, .ref q26, .ref q28, .ref q30, .ref q32, .ref q34, .ref q36, .ref q38, .null, .null])), (q1, .inr (7, [.ref y3, .int 0, .int 0])), (y3, .inl (y4, 200, .inl (fun _ => 0))), (q5, .inr (8, [.ref y7, .ref y8, .ref y9, .ref y10, .ref y11, .int 0, .int 0, .int 0])), (y9, .inl (y12, 32, .inl (fun _ => 0))), (q13, .inr (8, [.ref y15, .ref y16, .ref y17, .ref y18, .ref y19, .int 0, .int 0, .int 0])), (y17, .inl (y20, 32, .inl (fun _ => 0))), (q21, .inr (4, [.ref q1, .ref q13, .int 0, .int 0, .int 0, .int 0, .int 0])), (q23, .inr (0, [.ref y25, .int 0, .int 0])), (q26, .inl (k27, 2, .inr (.inr (.inr (.inr (fun _ => none))))))] := hD
  have hK : va_K D vwCl [(y4, .byte), (y12, .int), (y20, .int), (k27, .object RX1)] s := hK
  refine lv_aload_n hx hb dX9_init_141 rfl (lv_at hl 0 rfl) ?_
  refine va_new (ci := 2) (fs := [.null, .null, .int 0]) (C := RX2) (T := TX2) (N := 3) hx hb hts (fun _ h => List.mem_cons_of_mem _ (List.mem_append_right _ h)) tyX2 tyX2_ok hown (hts (.classLink RX9 78 RX2) (List.mem_of_getElem? (i := 77) rfl)) (hts (.instantiable RX2 3) (List.mem_of_getElem? (i := 78) rfl)) (hts (.initialized RX2) (List.mem_of_getElem? (i := 79) rfl)) hK hP hD hS hA rfl (fun j hj => by rcases (show j = 0 ∨ j = 1 ∨ j = 2 by omega) with rfl | rfl | rfl <;> rfl) (Nat.le_of_ble_eq_true rfl) (Nat.le_of_ble_eq_true rfl) dX9_init_142 (fun q40 H hP hD hS => ?_)
  have hP : va_P D vwCl [(h0, .inr (9, [.ref q1, .ref q5, .ref q13, .ref q21, .ref q23, .ref q26, .ref q28, .ref q30, .ref q32, .ref q34, .ref q36, .ref q38, .null, .null])), (q1, .inr (7, [.ref y3, .int 0, .int 0])), (y3, .inl (y4, 200, .inl (fun _ => 0))), (q5, .inr (8, [.ref y7, .ref y8, .ref y9, .ref y10, .ref y11, .int 0, .int 0, .int 0])), (y9, .inl (y12, 32, .inl (fun _ => 0))), (q13, .inr (8, [.ref y15, .ref y16, .ref y17, .ref y18, .ref y19, .int 0, .int 0, .int 0])), (y17, .inl (y20, 32, .inl (fun _ => 0))), (q21, .inr (4, [.ref q1, .ref q13, .int 0, .int 0, .int 0, .int 0, .int 0])), (q23, .inr (0, [.ref y25, .int 0, .int 0])), (q26, .inl (k27, 2, .inr (.inr (.inr (.inr (fun _ => none)))))), (q40, .inr (2, [.null, .null, .int 0]))] H := hP
  have hD : va_D A [(h0, .inr (9, [.ref q1, .ref q5, .ref q13, .ref q21, .ref q23, .ref q26, .ref q28, .ref q30, .ref q32, .ref q34, .ref q36, .ref q38, .null, .null])), (q1, .inr (7, [.ref y3, .int 0, .int 0])), (y3, .inl (y4, 200, .inl (fun _ => 0))), (q5, .inr (8, [.ref y7, .ref y8, .ref y9, .ref y10, .ref y11, .int 0, .int 0, .int 0])), (y9, .inl (y12, 32, .inl (fun _ => 0))), (q13, .inr (8, [.ref y15, .ref y16, .ref y17, .ref y18, .ref y19, .int 0, .int 0, .int 0])), (y17, .inl (y20, 32, .inl (fun _ => 0))), (q21, .inr (4, [.ref q1, .ref q13, .int 0, .int 0, .int 0, .int 0, .int 0])), (q23, .inr (0, [.ref y25, .int 0, .int 0])), (q26, .inl (k27, 2, .inr (.inr (.inr (.inr (fun _ => none)))))), (q40, .inr (2, [.null, .null, .int 0]))] := hD
  have hK : va_K D vwCl [(y4, .byte), (y12, .int), (y20, .int), (k27, .object RX1)] s := hK
  refine W.widen (k := 37) (n := 7834) (Nat.le_of_ble_eq_true rfl) (Nat.le_of_ble_eq_true rfl) ?_
  refine lv_dup hx hb dX9_init_145 rfl ?_
  have hPc := hP.sub (ws' := [(q40, .inr (2, [.null, .null, .int 0]))]) [10] rfl
  have hKc := hK.sub (tys' := []) [] rfl
  have hDc := hD.sub (ws' := [(q40, .inr (2, [.null, .null, .int 0]))]) [10] (by decide) rfl
  have hFc := va_free (wc := [(q40, .inr (2, [.null, .null, .int 0]))]) hD hS hA [10] rfl
  refine va_callv (va_runIN (As := []) (rest := [.ref q40, .ref h0]) ⟨hx, hb, hml, hown, hts⟩ (c_X2_init l D q40 H.size) ⟨va_cnB 0 hts g_X9_init_X2_init rfl rfl rfl hN9_80 (hts (.initialized RX2) (List.mem_of_getElem? (i := 79) rfl)) (by decide +kernel) ⟨Nat.le_of_ble_eq_true rfl, Nat.le_of_ble_eq_true rfl⟩, rfl, (hts (.instanceMethod yX2_init) (List.mem_of_getElem? (i := 80) rfl))⟩ ⟨fun a U g mk q => by obtain ⟨q0, q1, qP, qK, qD, qE0⟩ := q; exact ⟨q0, q1, qP, va_K.moved (u := U) (U := U.calling g mk a) (Vm.Alike.refl U.vm) qK, qD, va_Nw.same rfl rfl qE0⟩, fun U hU hW => ⟨rfl, by rw [hU], by rw [hU]; exact hPc, va_K.moved hW.alike hKc, hDc.weaken (fun _ _ _ _ => trivial), va_Nw.warmM hW hN2_17⟩⟩ rfl rfl hl.1 rfl (lv_room (Nat.le_of_ble_eq_true rfl)) dX9_init_146 ⟨Nat.le_of_ble_eq_true rfl, Nat.le_of_ble_eq_true rfl⟩) hS (fun q _ h => hFc q h) hFc (fun u t H1 locs ht hvm hw hB hz1 hk1 hS => ?_)
  obtain ⟨hP1, hK1, hD1⟩ := hB
  rw [ht] at hP1
  have hK1 := va_K.moved hvm.symm hK1
  obtain ⟨hP, hD⟩ := va_join (wr := [(h0, .inr (9, [.ref q1, .ref q5, .ref q13, .ref q21, .ref q23, .ref q26, .ref q28, .ref q30, .ref q32, .ref q34, .ref q36, .ref q38, .null, .null])), (q1, .inr (7, [.ref y3, .int 0, .int 0])), (y3, .inl (y4, 200, .inl (fun _ => 0))), (q5, .inr (8, [.ref y7, .ref y8, .ref y9, .ref y10, .ref y11, .int 0, .int 0, .int 0])), (y9, .inl (y12, 32, .inl (fun _ => 0))), (q13, .inr (8, [.ref y15, .ref y16, .ref y17, .ref y18, .ref y19, .int 0, .int 0, .int 0])), (y17, .inl (y20, 32, .inl (fun _ => 0))), (q21, .inr (4, [.ref q1, .ref q13, .int 0, .int 0, .int 0, .int 0, .int 0])), (q23, .inr (0, [.ref y25, .int 0, .int 0])), (q26, .inl (k27, 2, .inr (.inr (.inr (.inr (fun _ => none))))))]) (w1 := []) hP hD [10] [0, 1, 2, 3, 4, 5, 6, 7, 8, 9] rfl rfl (by decide) (by decide) hk1 hFc hP1 hD1
  have hK := (hK.sub (tys' := [(y4, .byte), (y12, .int), (y20, .int), (k27, .object RX1)]) [0, 1, 2, 3] rfl).app hK1
  generalize H1 = H at hP hS ⊢
  have hP : va_P D vwCl [(h0, .inr (9, [.ref q1, .ref q5, .ref q13, .ref q21, .ref q23, .ref q26, .ref q28, .ref q30, .ref q32, .ref q34, .ref q36, .ref q38, .null, .null])), (q1, .inr (7, [.ref y3, .int 0, .int 0])), (y3, .inl (y4, 200, .inl (fun _ => 0))), (q5, .inr (8, [.ref y7, .ref y8, .ref y9, .ref y10, .ref y11, .int 0, .int 0, .int 0])), (y9, .inl (y12, 32, .inl (fun _ => 0))), (q13, .inr (8, [.ref y15, .ref y16, .ref y17, .ref y18, .ref y19, .int 0, .int 0, .int 0])), (y17, .inl (y20, 32, .inl (fun _ => 0))), (q21, .inr (4, [.ref q1, .ref q13, .int 0, .int 0, .int 0, .int 0, .int 0])), (q23, .inr (0, [.ref y25, .int 0, .int 0])), (q26, .inl (k27, 2, .inr (.inr (.inr (.inr (fun _ => none))))))] H := hP
  have hD : va_D A [(h0, .inr (9, [.ref q1, .ref q5, .ref q13, .ref q21, .ref q23, .ref q26, .ref q28, .ref q30, .ref q32, .ref q34, .ref q36, .ref q38, .null, .null])), (q1, .inr (7, [.ref y3, .int 0, .int 0])), (y3, .inl (y4, 200, .inl (fun _ => 0))), (q5, .inr (8, [.ref y7, .ref y8, .ref y9, .ref y10, .ref y11, .int 0, .int 0, .int 0])), (y9, .inl (y12, 32, .inl (fun _ => 0))), (q13, .inr (8, [.ref y15, .ref y16, .ref y17, .ref y18, .ref y19, .int 0, .int 0, .int 0])), (y17, .inl (y20, 32, .inl (fun _ => 0))), (q21, .inr (4, [.ref q1, .ref q13, .int 0, .int 0, .int 0, .int 0, .int 0])), (q23, .inr (0, [.ref y25, .int 0, .int 0])), (q26, .inl (k27, 2, .inr (.inr (.inr (.inr (fun _ => none))))))] := hD
  have hK : va_K D vwCl [(y4, .byte), (y12, .int), (y20, .int), (k27, .object RX1)] s := hK
  refine W.widen (k := 39) (n := 8837) (Nat.le_of_ble_eq_true rfl) (Nat.le_of_ble_eq_true rfl) ?_
  refine va_putF (D := D) (ci := 9) (v := .ref q40) (ty := .object "LineCites$NumberSet") (C := RX9) (T := TX9) (N := 14) hx hb hts (fun _ h => List.mem_cons_of_mem _ (List.mem_append_left _ (List.mem_append_left _ (List.mem_append_left _ (List.mem_append_left _ (List.mem_append_left _ (List.mem_append_left _ (List.mem_append_left _ (List.mem_append_right _ h))))))))) tyX9 tyX9_ok nmX9 hown hK hP hD hS 0 rfl rfl 12 (by decide) (hts (.fieldLink RX9 81 "LineCites" "middle" "LLineCites$NumberSet;") (List.mem_of_getElem? (i := 87) rfl)) (fun _ h9 => h9) rfl hin rfl (by decide +kernel) rfl rfl (Nat.le_of_ble_eq_true rfl) dX9_init_149 (fun H locs hP hD hS => ?_)
  have hP : va_P D vwCl [(h0, .inr (9, [.ref q1, .ref q5, .ref q13, .ref q21, .ref q23, .ref q26, .ref q28, .ref q30, .ref q32, .ref q34, .ref q36, .ref q38, .ref q40, .null])), (q1, .inr (7, [.ref y3, .int 0, .int 0])), (y3, .inl (y4, 200, .inl (fun _ => 0))), (q5, .inr (8, [.ref y7, .ref y8, .ref y9, .ref y10, .ref y11, .int 0, .int 0, .int 0])), (y9, .inl (y12, 32, .inl (fun _ => 0))), (q13, .inr (8, [.ref y15, .ref y16, .ref y17, .ref y18, .ref y19, .int 0, .int 0, .int 0])), (y17, .inl (y20, 32, .inl (fun _ => 0))), (q21, .inr (4, [.ref q1, .ref q13, .int 0, .int 0, .int 0, .int 0, .int 0])), (q23, .inr (0, [.ref y25, .int 0, .int 0])), (q26, .inl (k27, 2, .inr (.inr (.inr (.inr (fun _ => none))))))] H := hP
  have hD : va_D A [(h0, .inr (9, [.ref q1, .ref q5, .ref q13, .ref q21, .ref q23, .ref q26, .ref q28, .ref q30, .ref q32, .ref q34, .ref q36, .ref q38, .ref q40, .null])), (q1, .inr (7, [.ref y3, .int 0, .int 0])), (y3, .inl (y4, 200, .inl (fun _ => 0))), (q5, .inr (8, [.ref y7, .ref y8, .ref y9, .ref y10, .ref y11, .int 0, .int 0, .int 0])), (y9, .inl (y12, 32, .inl (fun _ => 0))), (q13, .inr (8, [.ref y15, .ref y16, .ref y17, .ref y18, .ref y19, .int 0, .int 0, .int 0])), (y17, .inl (y20, 32, .inl (fun _ => 0))), (q21, .inr (4, [.ref q1, .ref q13, .int 0, .int 0, .int 0, .int 0, .int 0])), (q23, .inr (0, [.ref y25, .int 0, .int 0])), (q26, .inl (k27, 2, .inr (.inr (.inr (.inr (fun _ => none))))))] := hD
  have hK : va_K D vwCl [(y4, .byte), (y12, .int), (y20, .int), (k27, .object RX1)] s := hK
  refine lv_aload_n hx hb dX9_init_152 rfl (lv_at hl 0 rfl) ?_
  refine va_new (ci := 2) (fs := [.null, .null, .int 0]) (C := RX2) (T := TX2) (N := 3) hx hb hts (fun _ h => List.mem_cons_of_mem _ (List.mem_append_right _ h)) tyX2 tyX2_ok hown (hts (.classLink RX9 78 RX2) (List.mem_of_getElem? (i := 77) rfl)) (hts (.instantiable RX2 3) (List.mem_of_getElem? (i := 78) rfl)) (hts (.initialized RX2) (List.mem_of_getElem? (i := 79) rfl)) hK hP hD hS hA rfl (fun j hj => by rcases (show j = 0 ∨ j = 1 ∨ j = 2 by omega) with rfl | rfl | rfl <;> rfl) (Nat.le_of_ble_eq_true rfl) (Nat.le_of_ble_eq_true rfl) dX9_init_153 (fun q42 H hP hD hS => ?_)
  have hP : va_P D vwCl [(h0, .inr (9, [.ref q1, .ref q5, .ref q13, .ref q21, .ref q23, .ref q26, .ref q28, .ref q30, .ref q32, .ref q34, .ref q36, .ref q38, .ref q40, .null])), (q1, .inr (7, [.ref y3, .int 0, .int 0])), (y3, .inl (y4, 200, .inl (fun _ => 0))), (q5, .inr (8, [.ref y7, .ref y8, .ref y9, .ref y10, .ref y11, .int 0, .int 0, .int 0])), (y9, .inl (y12, 32, .inl (fun _ => 0))), (q13, .inr (8, [.ref y15, .ref y16, .ref y17, .ref y18, .ref y19, .int 0, .int 0, .int 0])), (y17, .inl (y20, 32, .inl (fun _ => 0))), (q21, .inr (4, [.ref q1, .ref q13, .int 0, .int 0, .int 0, .int 0, .int 0])), (q23, .inr (0, [.ref y25, .int 0, .int 0])), (q26, .inl (k27, 2, .inr (.inr (.inr (.inr (fun _ => none)))))), (q42, .inr (2, [.null, .null, .int 0]))] H := hP
  have hD : va_D A [(h0, .inr (9, [.ref q1, .ref q5, .ref q13, .ref q21, .ref q23, .ref q26, .ref q28, .ref q30, .ref q32, .ref q34, .ref q36, .ref q38, .ref q40, .null])), (q1, .inr (7, [.ref y3, .int 0, .int 0])), (y3, .inl (y4, 200, .inl (fun _ => 0))), (q5, .inr (8, [.ref y7, .ref y8, .ref y9, .ref y10, .ref y11, .int 0, .int 0, .int 0])), (y9, .inl (y12, 32, .inl (fun _ => 0))), (q13, .inr (8, [.ref y15, .ref y16, .ref y17, .ref y18, .ref y19, .int 0, .int 0, .int 0])), (y17, .inl (y20, 32, .inl (fun _ => 0))), (q21, .inr (4, [.ref q1, .ref q13, .int 0, .int 0, .int 0, .int 0, .int 0])), (q23, .inr (0, [.ref y25, .int 0, .int 0])), (q26, .inl (k27, 2, .inr (.inr (.inr (.inr (fun _ => none)))))), (q42, .inr (2, [.null, .null, .int 0]))] := hD
  have hK : va_K D vwCl [(y4, .byte), (y12, .int), (y20, .int), (k27, .object RX1)] s := hK
  refine W.widen (k := 40) (n := 8840) (Nat.le_of_ble_eq_true rfl) (Nat.le_of_ble_eq_true rfl) ?_
  refine lv_dup hx hb dX9_init_156 rfl ?_
  have hPc := hP.sub (ws' := [(q42, .inr (2, [.null, .null, .int 0]))]) [10] rfl
  have hKc := hK.sub (tys' := []) [] rfl
  have hDc := hD.sub (ws' := [(q42, .inr (2, [.null, .null, .int 0]))]) [10] (by decide) rfl
  have hFc := va_free (wc := [(q42, .inr (2, [.null, .null, .int 0]))]) hD hS hA [10] rfl
  refine va_callv (va_runIN (As := []) (rest := [.ref q42, .ref h0]) ⟨hx, hb, hml, hown, hts⟩ (c_X2_init l D q42 H.size) ⟨va_cnB 0 hts g_X9_init_X2_init rfl rfl rfl hN9_80 (hts (.initialized RX2) (List.mem_of_getElem? (i := 79) rfl)) (by decide +kernel) ⟨Nat.le_of_ble_eq_true rfl, Nat.le_of_ble_eq_true rfl⟩, rfl, (hts (.instanceMethod yX2_init) (List.mem_of_getElem? (i := 80) rfl))⟩ ⟨fun a U g mk q => by obtain ⟨q0, q1, qP, qK, qD, qE0⟩ := q; exact ⟨q0, q1, qP, va_K.moved (u := U) (U := U.calling g mk a) (Vm.Alike.refl U.vm) qK, qD, va_Nw.same rfl rfl qE0⟩, fun U hU hW => ⟨rfl, by rw [hU], by rw [hU]; exact hPc, va_K.moved hW.alike hKc, hDc.weaken (fun _ _ _ _ => trivial), va_Nw.warmM hW hN2_17⟩⟩ rfl rfl hl.1 rfl (lv_room (Nat.le_of_ble_eq_true rfl)) dX9_init_157 ⟨Nat.le_of_ble_eq_true rfl, Nat.le_of_ble_eq_true rfl⟩) hS (fun q _ h => hFc q h) hFc (fun u t H1 locs ht hvm hw hB hz1 hk1 hS => ?_)
  obtain ⟨hP1, hK1, hD1⟩ := hB
  rw [ht] at hP1
  have hK1 := va_K.moved hvm.symm hK1
  obtain ⟨hP, hD⟩ := va_join (wr := [(h0, .inr (9, [.ref q1, .ref q5, .ref q13, .ref q21, .ref q23, .ref q26, .ref q28, .ref q30, .ref q32, .ref q34, .ref q36, .ref q38, .ref q40, .null])), (q1, .inr (7, [.ref y3, .int 0, .int 0])), (y3, .inl (y4, 200, .inl (fun _ => 0))), (q5, .inr (8, [.ref y7, .ref y8, .ref y9, .ref y10, .ref y11, .int 0, .int 0, .int 0])), (y9, .inl (y12, 32, .inl (fun _ => 0))), (q13, .inr (8, [.ref y15, .ref y16, .ref y17, .ref y18, .ref y19, .int 0, .int 0, .int 0])), (y17, .inl (y20, 32, .inl (fun _ => 0))), (q21, .inr (4, [.ref q1, .ref q13, .int 0, .int 0, .int 0, .int 0, .int 0])), (q23, .inr (0, [.ref y25, .int 0, .int 0])), (q26, .inl (k27, 2, .inr (.inr (.inr (.inr (fun _ => none))))))]) (w1 := []) hP hD [10] [0, 1, 2, 3, 4, 5, 6, 7, 8, 9] rfl rfl (by decide) (by decide) hk1 hFc hP1 hD1
  have hK := (hK.sub (tys' := [(y4, .byte), (y12, .int), (y20, .int), (k27, .object RX1)]) [0, 1, 2, 3] rfl).app hK1
  generalize H1 = H at hP hS ⊢
  have hP : va_P D vwCl [(h0, .inr (9, [.ref q1, .ref q5, .ref q13, .ref q21, .ref q23, .ref q26, .ref q28, .ref q30, .ref q32, .ref q34, .ref q36, .ref q38, .ref q40, .null])), (q1, .inr (7, [.ref y3, .int 0, .int 0])), (y3, .inl (y4, 200, .inl (fun _ => 0))), (q5, .inr (8, [.ref y7, .ref y8, .ref y9, .ref y10, .ref y11, .int 0, .int 0, .int 0])), (y9, .inl (y12, 32, .inl (fun _ => 0))), (q13, .inr (8, [.ref y15, .ref y16, .ref y17, .ref y18, .ref y19, .int 0, .int 0, .int 0])), (y17, .inl (y20, 32, .inl (fun _ => 0))), (q21, .inr (4, [.ref q1, .ref q13, .int 0, .int 0, .int 0, .int 0, .int 0])), (q23, .inr (0, [.ref y25, .int 0, .int 0])), (q26, .inl (k27, 2, .inr (.inr (.inr (.inr (fun _ => none))))))] H := hP
  have hD : va_D A [(h0, .inr (9, [.ref q1, .ref q5, .ref q13, .ref q21, .ref q23, .ref q26, .ref q28, .ref q30, .ref q32, .ref q34, .ref q36, .ref q38, .ref q40, .null])), (q1, .inr (7, [.ref y3, .int 0, .int 0])), (y3, .inl (y4, 200, .inl (fun _ => 0))), (q5, .inr (8, [.ref y7, .ref y8, .ref y9, .ref y10, .ref y11, .int 0, .int 0, .int 0])), (y9, .inl (y12, 32, .inl (fun _ => 0))), (q13, .inr (8, [.ref y15, .ref y16, .ref y17, .ref y18, .ref y19, .int 0, .int 0, .int 0])), (y17, .inl (y20, 32, .inl (fun _ => 0))), (q21, .inr (4, [.ref q1, .ref q13, .int 0, .int 0, .int 0, .int 0, .int 0])), (q23, .inr (0, [.ref y25, .int 0, .int 0])), (q26, .inl (k27, 2, .inr (.inr (.inr (.inr (fun _ => none))))))] := hD
  have hK : va_K D vwCl [(y4, .byte), (y12, .int), (y20, .int), (k27, .object RX1)] s := hK
  refine W.widen (k := 42) (n := 9843) (Nat.le_of_ble_eq_true rfl) (Nat.le_of_ble_eq_true rfl) ?_
  refine va_putF (D := D) (ci := 9) (v := .ref q42) (ty := .object "LineCites$NumberSet") (C := RX9) (T := TX9) (N := 14) hx hb hts (fun _ h => List.mem_cons_of_mem _ (List.mem_append_left _ (List.mem_append_left _ (List.mem_append_left _ (List.mem_append_left _ (List.mem_append_left _ (List.mem_append_left _ (List.mem_append_left _ (List.mem_append_right _ h))))))))) tyX9 tyX9_ok nmX9 hown hK hP hD hS 0 rfl rfl 13 (by decide) (hts (.fieldLink RX9 85 "LineCites" "reached" "LLineCites$NumberSet;") (List.mem_of_getElem? (i := 88) rfl)) (fun _ h9 => h9) rfl hin rfl (by decide +kernel) rfl rfl (Nat.le_of_ble_eq_true rfl) dX9_init_160 (fun H locs hP hD hS => ?_)
  have hP : va_P D vwCl [(h0, .inr (9, [.ref q1, .ref q5, .ref q13, .ref q21, .ref q23, .ref q26, .ref q28, .ref q30, .ref q32, .ref q34, .ref q36, .ref q38, .ref q40, .ref q42])), (q1, .inr (7, [.ref y3, .int 0, .int 0])), (y3, .inl (y4, 200, .inl (fun _ => 0))), (q5, .inr (8, [.ref y7, .ref y8, .ref y9, .ref y10, .ref y11, .int 0, .int 0, .int 0])), (y9, .inl (y12, 32, .inl (fun _ => 0))), (q13, .inr (8, [.ref y15, .ref y16, .ref y17, .ref y18, .ref y19, .int 0, .int 0, .int 0])), (y17, .inl (y20, 32, .inl (fun _ => 0))), (q21, .inr (4, [.ref q1, .ref q13, .int 0, .int 0, .int 0, .int 0, .int 0])), (q23, .inr (0, [.ref y25, .int 0, .int 0])), (q26, .inl (k27, 2, .inr (.inr (.inr (.inr (fun _ => none))))))] H := hP
  have hD : va_D A [(h0, .inr (9, [.ref q1, .ref q5, .ref q13, .ref q21, .ref q23, .ref q26, .ref q28, .ref q30, .ref q32, .ref q34, .ref q36, .ref q38, .ref q40, .ref q42])), (q1, .inr (7, [.ref y3, .int 0, .int 0])), (y3, .inl (y4, 200, .inl (fun _ => 0))), (q5, .inr (8, [.ref y7, .ref y8, .ref y9, .ref y10, .ref y11, .int 0, .int 0, .int 0])), (y9, .inl (y12, 32, .inl (fun _ => 0))), (q13, .inr (8, [.ref y15, .ref y16, .ref y17, .ref y18, .ref y19, .int 0, .int 0, .int 0])), (y17, .inl (y20, 32, .inl (fun _ => 0))), (q21, .inr (4, [.ref q1, .ref q13, .int 0, .int 0, .int 0, .int 0, .int 0])), (q23, .inr (0, [.ref y25, .int 0, .int 0])), (q26, .inl (k27, 2, .inr (.inr (.inr (.inr (fun _ => none))))))] := hD
  have hK : va_K D vwCl [(y4, .byte), (y12, .int), (y20, .int), (k27, .object RX1)] s := hK
  have hP9 := hP.sub (ws' := [(h0, .inr (9, [.ref q1, .ref q5, .ref q13, .ref q21, .ref q23, .ref q26, .ref q28, .ref q30, .ref q32, .ref q34, .ref q36, .ref q38, .ref q40, .ref q42])), (q1, .inr (7, [.ref y3, .int 0, .int 0])), (y3, .inl (y4, 200, .inl (fun _ => 0))), (q5, .inr (8, [.ref y7, .ref y8, .ref y9, .ref y10, .ref y11, .int 0, .int 0, .int 0])), (y9, .inl (y12, 32, .inl (fun _ => 0))), (q21, .inr (4, [.ref q1, .ref q13, .int 0, .int 0, .int 0, .int 0, .int 0])), (q23, .inr (0, [.ref y25, .int 0, .int 0])), (q26, .inl (k27, 2, .inr (.inr (.inr (.inr (fun _ => none))))))]) [0, 1, 2, 3, 4, 7, 8, 9] rfl
  have hD9 := hD.sub (ws' := [(h0, .inr (9, [.ref q1, .ref q5, .ref q13, .ref q21, .ref q23, .ref q26, .ref q28, .ref q30, .ref q32, .ref q34, .ref q36, .ref q38, .ref q40, .ref q42])), (q1, .inr (7, [.ref y3, .int 0, .int 0])), (y3, .inl (y4, 200, .inl (fun _ => 0))), (q5, .inr (8, [.ref y7, .ref y8, .ref y9, .ref y10, .ref y11, .int 0, .int 0, .int 0])), (y9, .inl (y12, 32, .inl (fun _ => 0))), (q21, .inr (4, [.ref q1, .ref q13, .int 0, .int 0, .int 0, .int 0, .int 0])), (q23, .inr (0, [.ref y25, .int 0, .int 0])), (q26, .inl (k27, 2, .inr (.inr (.inr (.inr (fun _ => none))))))]) [0, 1, 2, 3, 4, 7, 8, 9] (by decide) rfl
  have hK9 := hK.sub (tys' := [(y4, .byte), (y12, .int), (k27, .object RX1)]) [0, 1, 3] rfl
  refine W.widen (k := 42) (n := 9843) (Nat.le_of_ble_eq_true rfl) (Nat.le_of_ble_eq_true rfl) ?_
  exact W.vret hx hb hr (fun t ht hW => ⟨⟨(), rfl, trivial, q1, q5, q13, q21, q23, q26, q28, q30, q32, q34, q36, q38, q40, q42, y3, y7, y8, y9, y10, y11, y25, y4, y12, k27, by rw [ht]; exact hP9, va_K.moved hW.alike hK9, hD9⟩, hS.F ht⟩) hS.2.2 dX9_init_163
end
