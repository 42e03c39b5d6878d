-- 01: PART A of the skeleton and the printed names that the machine below needs (by gen01.py, from the printed files)
-- ===== PART A: goes FIRST, ahead of the names: the tables' words, and 'selects' of the private methods out of them =====
/-- a private method of a class that the tables say can be made, by its rows of tables_1 -/
def lw_okq (q : MethodName × Nat) : Prop := (q.1.cls ≠ "java/lang/invoke/MethodHandle" ∧ q.1.cls ≠ "java/lang/invoke/VarHandle") ∧ Cond.instantiable q.1.cls q.2 ∈ tables_1 ∧ Cond.privateMethod q.1 ∈ tables_1 ∧ Cond.instanceMethod q.1 ∈ tables_1
theorem lw_p0 : lw_okq (⟨"MilestoneMaids", "isMaid", "(I)Z"⟩, 9) := ⟨⟨by decide +kernel, by decide +kernel⟩, List.mem_of_getElem? (i := 18) (by decide +kernel), List.mem_of_getElem? (i := 263) (by decide +kernel), List.mem_of_getElem? (i := 264) (by decide +kernel)⟩
theorem lw_p1 : lw_okq (⟨"MilestoneMaids", "isPilgrim", "(I)Z"⟩, 9) := ⟨⟨by decide +kernel, by decide +kernel⟩, List.mem_of_getElem? (i := 18) (by decide +kernel), List.mem_of_getElem? (i := 314) (by decide +kernel), List.mem_of_getElem? (i := 315) (by decide +kernel)⟩
theorem lw_p2 : lw_okq (⟨"MilestoneMaids", "comes", "(I)I"⟩, 9) := ⟨⟨by decide +kernel, by decide +kernel⟩, List.mem_of_getElem? (i := 18) (by decide +kernel), List.mem_of_getElem? (i := 322) (by decide +kernel), List.mem_of_getElem? (i := 323) (by decide +kernel)⟩
theorem lw_p3 : lw_okq (⟨"MilestoneMaids$Stage", "meet", "(I)V"⟩, 14) := ⟨⟨by decide +kernel, by decide +kernel⟩, List.mem_of_getElem? (i := 26) (by decide +kernel), List.mem_of_getElem? (i := 343) (by decide +kernel), List.mem_of_getElem? (i := 344) (by decide +kernel)⟩
theorem lw_p4 : lw_okq (⟨"MilestoneMaids$WayReader", "readClause", "()V"⟩, 7) := ⟨⟨by decide +kernel, by decide +kernel⟩, List.mem_of_getElem? (i := 110) (by decide +kernel), List.mem_of_getElem? (i := 401) (by decide +kernel), List.mem_of_getElem? (i := 402) (by decide +kernel)⟩
theorem lw_p5 : lw_okq (⟨"MilestoneMaids$WayReader", "next", "()I"⟩, 7) := ⟨⟨by decide +kernel, by decide +kernel⟩, List.mem_of_getElem? (i := 110) (by decide +kernel), List.mem_of_getElem? (i := 405) (by decide +kernel), List.mem_of_getElem? (i := 406) (by decide +kernel)⟩
theorem lw_p6 : lw_okq (⟨"MilestoneMaids$WayReader", "readWord", "(Ljava/lang/String;)V"⟩, 7) := ⟨⟨by decide +kernel, by decide +kernel⟩, List.mem_of_getElem? (i := 110) (by decide +kernel), List.mem_of_getElem? (i := 412) (by decide +kernel), List.mem_of_getElem? (i := 413) (by decide +kernel)⟩
theorem lw_p7 : lw_okq (⟨"MilestoneMaids$WayReader", "readSign", "(I)V"⟩, 7) := ⟨⟨by decide +kernel, by decide +kernel⟩, List.mem_of_getElem? (i := 110) (by decide +kernel), List.mem_of_getElem? (i := 464) (by decide +kernel), List.mem_of_getElem? (i := 465) (by decide +kernel)⟩
theorem lw_p8 : lw_okq (⟨"MilestoneMaids$WayReader", "readNumber", "()I"⟩, 7) := ⟨⟨by decide +kernel, by decide +kernel⟩, List.mem_of_getElem? (i := 110) (by decide +kernel), List.mem_of_getElem? (i := 468) (by decide +kernel), List.mem_of_getElem? (i := 469) (by decide +kernel)⟩
theorem lw_p9 : lw_okq (⟨"MilestoneMaids$WayReader", "readOneOf", "(Ljava/lang/String;)I"⟩, 7) := ⟨⟨by decide +kernel, by decide +kernel⟩, List.mem_of_getElem? (i := 110) (by decide +kernel), List.mem_of_getElem? (i := 473) (by decide +kernel), List.mem_of_getElem? (i := 474) (by decide +kernel)⟩
theorem lw_p10 : lw_okq (⟨"MilestoneMaids$WayReader", "readEither", "(I)V"⟩, 7) := ⟨⟨by decide +kernel, by decide +kernel⟩, List.mem_of_getElem? (i := 110) (by decide +kernel), List.mem_of_getElem? (i := 477) (by decide +kernel), List.mem_of_getElem? (i := 478) (by decide +kernel)⟩
theorem lw_p11 : lw_okq (⟨"MilestoneMaids$WayReader", "readBoth", "(I)V"⟩, 7) := ⟨⟨by decide +kernel, by decide +kernel⟩, List.mem_of_getElem? (i := 110) (by decide +kernel), List.mem_of_getElem? (i := 481) (by decide +kernel), List.mem_of_getElem? (i := 482) (by decide +kernel)⟩
theorem lw_p12 : lw_okq (⟨"MilestoneMaids$WayReader", "readPart", "(I)V"⟩, 7) := ⟨⟨by decide +kernel, by decide +kernel⟩, List.mem_of_getElem? (i := 110) (by decide +kernel), List.mem_of_getElem? (i := 485) (by decide +kernel), List.mem_of_getElem? (i := 486) (by decide +kernel)⟩
theorem lw_p13 : lw_okq (⟨"MilestoneMaids$WayReader", "readTest", "()V"⟩, 7) := ⟨⟨by decide +kernel, by decide +kernel⟩, List.mem_of_getElem? (i := 110) (by decide +kernel), List.mem_of_getElem? (i := 489) (by decide +kernel), List.mem_of_getElem? (i := 490) (by decide +kernel)⟩
theorem lw_p14 : lw_okq (⟨"MilestoneMaids$WayReader", "addStep", "(III)V"⟩, 7) := ⟨⟨by decide +kernel, by decide +kernel⟩, List.mem_of_getElem? (i := 110) (by decide +kernel), List.mem_of_getElem? (i := 495) (by decide +kernel), List.mem_of_getElem? (i := 496) (by decide +kernel)⟩
theorem lw_p15 : lw_okq (⟨"MilestoneMaids$WayReader", "readNot", "(I)V"⟩, 7) := ⟨⟨by decide +kernel, by decide +kernel⟩, List.mem_of_getElem? (i := 110) (by decide +kernel), List.mem_of_getElem? (i := 502) (by decide +kernel), List.mem_of_getElem? (i := 503) (by decide +kernel)⟩
def lw_privs_1 : List (MethodName × Nat) := [(⟨"MilestoneMaids", "isMaid", "(I)Z"⟩, 9), (⟨"MilestoneMaids", "isPilgrim", "(I)Z"⟩, 9), (⟨"MilestoneMaids", "comes", "(I)I"⟩, 9), (⟨"MilestoneMaids$Stage", "meet", "(I)V"⟩, 14), (⟨"MilestoneMaids$WayReader", "readClause", "()V"⟩, 7), (⟨"MilestoneMaids$WayReader", "next", "()I"⟩, 7), (⟨"MilestoneMaids$WayReader", "readWord", "(Ljava/lang/String;)V"⟩, 7), (⟨"MilestoneMaids$WayReader", "readSign", "(I)V"⟩, 7), (⟨"MilestoneMaids$WayReader", "readNumber", "()I"⟩, 7), (⟨"MilestoneMaids$WayReader", "readOneOf", "(Ljava/lang/String;)I"⟩, 7), (⟨"MilestoneMaids$WayReader", "readEither", "(I)V"⟩, 7), (⟨"MilestoneMaids$WayReader", "readBoth", "(I)V"⟩, 7), (⟨"MilestoneMaids$WayReader", "readPart", "(I)V"⟩, 7), (⟨"MilestoneMaids$WayReader", "readTest", "()V"⟩, 7), (⟨"MilestoneMaids$WayReader", "addStep", "(III)V"⟩, 7), (⟨"MilestoneMaids$WayReader", "readNot", "(I)V"⟩, 7)]
theorem lw_r1 : ∀ q ∈ lw_privs_1, lw_okq q := List.forall_mem_cons.mpr ⟨lw_p0, List.forall_mem_cons.mpr ⟨lw_p1, List.forall_mem_cons.mpr ⟨lw_p2, List.forall_mem_cons.mpr ⟨lw_p3, List.forall_mem_cons.mpr ⟨lw_p4, List.forall_mem_cons.mpr ⟨lw_p5, List.forall_mem_cons.mpr ⟨lw_p6, List.forall_mem_cons.mpr ⟨lw_p7, List.forall_mem_cons.mpr ⟨lw_p8, List.forall_mem_cons.mpr ⟨lw_p9, List.forall_mem_cons.mpr ⟨lw_p10, List.forall_mem_cons.mpr ⟨lw_p11, List.forall_mem_cons.mpr ⟨lw_p12, List.forall_mem_cons.mpr ⟨lw_p13, List.forall_mem_cons.mpr ⟨lw_p14, List.forall_mem_cons.mpr ⟨lw_p15, fun _ h => absurd h List.not_mem_nil⟩⟩⟩⟩⟩⟩⟩⟩⟩⟩⟩⟩⟩⟩⟩⟩
theorem lw_p16 : lw_okq (⟨"MilestoneMaids$WayReader", "readBracket", "(I)V"⟩, 7) := ⟨⟨by decide +kernel, by decide +kernel⟩, List.mem_of_getElem? (i := 110) (by decide +kernel), List.mem_of_getElem? (i := 506) (by decide +kernel), List.mem_of_getElem? (i := 507) (by decide +kernel)⟩
theorem lw_p17 : lw_okq (⟨"MilestoneMaids$OrderSearch", "goOn", "(LMilestoneMaids$Stage;III)V"⟩, 4) := ⟨⟨by decide +kernel, by decide +kernel⟩, List.mem_of_getElem? (i := 140) (by decide +kernel), List.mem_of_getElem? (i := 576) (by decide +kernel), List.mem_of_getElem? (i := 577) (by decide +kernel)⟩
theorem lw_p18 : lw_okq (⟨"MilestoneMaids$OrderSearch", "take", "(I)V"⟩, 4) := ⟨⟨by decide +kernel, by decide +kernel⟩, List.mem_of_getElem? (i := 140) (by decide +kernel), List.mem_of_getElem? (i := 581) (by decide +kernel), List.mem_of_getElem? (i := 582) (by decide +kernel)⟩
theorem lw_p19 : lw_okq (⟨"MilestoneMaids$OrderSearch", "goOnBy", "(ILMilestoneMaids$Stage;III)V"⟩, 4) := ⟨⟨by decide +kernel, by decide +kernel⟩, List.mem_of_getElem? (i := 140) (by decide +kernel), List.mem_of_getElem? (i := 586) (by decide +kernel), List.mem_of_getElem? (i := 587) (by decide +kernel)⟩
theorem lw_p20 : lw_okq (⟨"MilestoneMaids", "isPlanned", "(II)Z"⟩, 9) := ⟨⟨by decide +kernel, by decide +kernel⟩, List.mem_of_getElem? (i := 18) (by decide +kernel), List.mem_of_getElem? (i := 652) (by decide +kernel), List.mem_of_getElem? (i := 653) (by decide +kernel)⟩
theorem lw_p21 : lw_okq (⟨"MilestoneMaids", "judged", "(LMilestoneMaids$Tape;I)I"⟩, 9) := ⟨⟨by decide +kernel, by decide +kernel⟩, List.mem_of_getElem? (i := 18) (by decide +kernel), List.mem_of_getElem? (i := 686) (by decide +kernel), List.mem_of_getElem? (i := 687) (by decide +kernel)⟩
theorem lw_p22 : lw_okq (⟨"MilestoneMaids$Actor", "run", "(IIII)I"⟩, 5) := ⟨⟨by decide +kernel, by decide +kernel⟩, List.mem_of_getElem? (i := 161) (by decide +kernel), List.mem_of_getElem? (i := 710) (by decide +kernel), List.mem_of_getElem? (i := 711) (by decide +kernel)⟩
theorem lw_p23 : lw_okq (⟨"MilestoneMaids$Actor", "note", "(I)V"⟩, 5) := ⟨⟨by decide +kernel, by decide +kernel⟩, List.mem_of_getElem? (i := 161) (by decide +kernel), List.mem_of_getElem? (i := 718) (by decide +kernel), List.mem_of_getElem? (i := 719) (by decide +kernel)⟩
theorem lw_p24 : lw_okq (⟨"MilestoneMaids$Actor", "runBody", "(III)I"⟩, 5) := ⟨⟨by decide +kernel, by decide +kernel⟩, List.mem_of_getElem? (i := 161) (by decide +kernel), List.mem_of_getElem? (i := 722) (by decide +kernel), List.mem_of_getElem? (i := 723) (by decide +kernel)⟩
theorem lw_p25 : lw_okq (⟨"MilestoneMaidsModel", "in", "(III)Z"⟩, 72) := ⟨⟨by decide +kernel, by decide +kernel⟩, List.mem_of_getElem? (i := 782) (by decide +kernel), List.mem_of_getElem? (i := 1010) (by decide +kernel), List.mem_of_getElem? (i := 1011) (by decide +kernel)⟩
theorem lw_p26 : lw_okq (⟨"MilestoneMaidsModel", "isMarks", "(I)Z"⟩, 72) := ⟨⟨by decide +kernel, by decide +kernel⟩, List.mem_of_getElem? (i := 782) (by decide +kernel), List.mem_of_getElem? (i := 1018) (by decide +kernel), List.mem_of_getElem? (i := 1019) (by decide +kernel)⟩
theorem lw_p27 : lw_okq (⟨"MilestoneMaidsModel", "turnsBack", "(IZ)V"⟩, 72) := ⟨⟨by decide +kernel, by decide +kernel⟩, List.mem_of_getElem? (i := 782) (by decide +kernel), List.mem_of_getElem? (i := 1022) (by decide +kernel), List.mem_of_getElem? (i := 1023) (by decide +kernel)⟩
theorem lw_p28 : lw_okq (⟨"MilestoneMaidsModel", "isPilgrim", "(I)Z"⟩, 72) := ⟨⟨by decide +kernel, by decide +kernel⟩, List.mem_of_getElem? (i := 782) (by decide +kernel), List.mem_of_getElem? (i := 1030) (by decide +kernel), List.mem_of_getElem? (i := 1031) (by decide +kernel)⟩
theorem lw_p29 : lw_okq (⟨"MilestoneMaidsModel", "isMaid", "(I)Z"⟩, 72) := ⟨⟨by decide +kernel, by decide +kernel⟩, List.mem_of_getElem? (i := 782) (by decide +kernel), List.mem_of_getElem? (i := 1042) (by decide +kernel), List.mem_of_getElem? (i := 1043) (by decide +kernel)⟩
theorem lw_p30 : lw_okq (⟨"MilestoneMaidsModel", "has", "(II)Z"⟩, 72) := ⟨⟨by decide +kernel, by decide +kernel⟩, List.mem_of_getElem? (i := 782) (by decide +kernel), List.mem_of_getElem? (i := 1046) (by decide +kernel), List.mem_of_getElem? (i := 1047) (by decide +kernel)⟩
theorem lw_p31 : lw_okq (⟨"MilestoneMaidsModel", "douses", "(IZ)V"⟩, 72) := ⟨⟨by decide +kernel, by decide +kernel⟩, List.mem_of_getElem? (i := 782) (by decide +kernel), List.mem_of_getElem? (i := 1050) (by decide +kernel), List.mem_of_getElem? (i := 1051) (by decide +kernel)⟩
def lw_privs_2 : List (MethodName × Nat) := [(⟨"MilestoneMaids$WayReader", "readBracket", "(I)V"⟩, 7), (⟨"MilestoneMaids$OrderSearch", "goOn", "(LMilestoneMaids$Stage;III)V"⟩, 4), (⟨"MilestoneMaids$OrderSearch", "take", "(I)V"⟩, 4), (⟨"MilestoneMaids$OrderSearch", "goOnBy", "(ILMilestoneMaids$Stage;III)V"⟩, 4), (⟨"MilestoneMaids", "isPlanned", "(II)Z"⟩, 9), (⟨"MilestoneMaids", "judged", "(LMilestoneMaids$Tape;I)I"⟩, 9), (⟨"MilestoneMaids$Actor", "run", "(IIII)I"⟩, 5), (⟨"MilestoneMaids$Actor", "note", "(I)V"⟩, 5), (⟨"MilestoneMaids$Actor", "runBody", "(III)I"⟩, 5), (⟨"MilestoneMaidsModel", "in", "(III)Z"⟩, 72), (⟨"MilestoneMaidsModel", "isMarks", "(I)Z"⟩, 72), (⟨"MilestoneMaidsModel", "turnsBack", "(IZ)V"⟩, 72), (⟨"MilestoneMaidsModel", "isPilgrim", "(I)Z"⟩, 72), (⟨"MilestoneMaidsModel", "isMaid", "(I)Z"⟩, 72), (⟨"MilestoneMaidsModel", "has", "(II)Z"⟩, 72), (⟨"MilestoneMaidsModel", "douses", "(IZ)V"⟩, 72)]
theorem lw_r2 : ∀ q ∈ lw_privs_2, lw_okq q := List.forall_mem_cons.mpr ⟨lw_p16, List.forall_mem_cons.mpr ⟨lw_p17, List.forall_mem_cons.mpr ⟨lw_p18, List.forall_mem_cons.mpr ⟨lw_p19, List.forall_mem_cons.mpr ⟨lw_p20, List.forall_mem_cons.mpr ⟨lw_p21, List.forall_mem_cons.mpr ⟨lw_p22, List.forall_mem_cons.mpr ⟨lw_p23, List.forall_mem_cons.mpr ⟨lw_p24, List.forall_mem_cons.mpr ⟨lw_p25, List.forall_mem_cons.mpr ⟨lw_p26, List.forall_mem_cons.mpr ⟨lw_p27, List.forall_mem_cons.mpr ⟨lw_p28, List.forall_mem_cons.mpr ⟨lw_p29, List.forall_mem_cons.mpr ⟨lw_p30, List.forall_mem_cons.mpr ⟨lw_p31, fun _ h => absurd h List.not_mem_nil⟩⟩⟩⟩⟩⟩⟩⟩⟩⟩⟩⟩⟩⟩⟩⟩
theorem lw_p32 : lw_okq (⟨"MilestoneMaidsModel", "goesText", "(I)Z"⟩, 72) := ⟨⟨by decide +kernel, by decide +kernel⟩, List.mem_of_getElem? (i := 782) (by decide +kernel), List.mem_of_getElem? (i := 1066) (by decide +kernel), List.mem_of_getElem? (i := 1067) (by decide +kernel)⟩
theorem lw_p33 : lw_okq (⟨"MilestoneMaidsModel", "takesClause", "(I)Z"⟩, 72) := ⟨⟨by decide +kernel, by decide +kernel⟩, List.mem_of_getElem? (i := 782) (by decide +kernel), List.mem_of_getElem? (i := 1070) (by decide +kernel), List.mem_of_getElem? (i := 1071) (by decide +kernel)⟩
theorem lw_p34 : lw_okq (⟨"MilestoneMaidsModel", "takesHead", "(I)Z"⟩, 72) := ⟨⟨by decide +kernel, by decide +kernel⟩, List.mem_of_getElem? (i := 782) (by decide +kernel), List.mem_of_getElem? (i := 1074) (by decide +kernel), List.mem_of_getElem? (i := 1075) (by decide +kernel)⟩
theorem lw_p35 : lw_okq (⟨"MilestoneMaidsModel", "next", "()I"⟩, 72) := ⟨⟨by decide +kernel, by decide +kernel⟩, List.mem_of_getElem? (i := 782) (by decide +kernel), List.mem_of_getElem? (i := 1078) (by decide +kernel), List.mem_of_getElem? (i := 1079) (by decide +kernel)⟩
theorem lw_p36 : lw_okq (⟨"MilestoneMaidsModel", "takesWord", "(II)Z"⟩, 72) := ⟨⟨by decide +kernel, by decide +kernel⟩, List.mem_of_getElem? (i := 782) (by decide +kernel), List.mem_of_getElem? (i := 1082) (by decide +kernel), List.mem_of_getElem? (i := 1083) (by decide +kernel)⟩
theorem lw_p37 : lw_okq (⟨"MilestoneMaidsModel", "takes", "(I)Z"⟩, 72) := ⟨⟨by decide +kernel, by decide +kernel⟩, List.mem_of_getElem? (i := 782) (by decide +kernel), List.mem_of_getElem? (i := 1086) (by decide +kernel), List.mem_of_getElem? (i := 1087) (by decide +kernel)⟩
theorem lw_p38 : lw_okq (⟨"MilestoneMaidsModel", "takesNumber", "()Z"⟩, 72) := ⟨⟨by decide +kernel, by decide +kernel⟩, List.mem_of_getElem? (i := 782) (by decide +kernel), List.mem_of_getElem? (i := 1090) (by decide +kernel), List.mem_of_getElem? (i := 1091) (by decide +kernel)⟩
theorem lw_p39 : lw_okq (⟨"MilestoneMaidsModel", "isDigit", "()Z"⟩, 72) := ⟨⟨by decide +kernel, by decide +kernel⟩, List.mem_of_getElem? (i := 782) (by decide +kernel), List.mem_of_getElem? (i := 1094) (by decide +kernel), List.mem_of_getElem? (i := 1095) (by decide +kernel)⟩
theorem lw_p40 : lw_okq (⟨"MilestoneMaidsModel", "takesE", "(I)Z"⟩, 72) := ⟨⟨by decide +kernel, by decide +kernel⟩, List.mem_of_getElem? (i := 782) (by decide +kernel), List.mem_of_getElem? (i := 1098) (by decide +kernel), List.mem_of_getElem? (i := 1099) (by decide +kernel)⟩
theorem lw_p41 : lw_okq (⟨"MilestoneMaidsModel", "takesTest", "()Z"⟩, 72) := ⟨⟨by decide +kernel, by decide +kernel⟩, List.mem_of_getElem? (i := 782) (by decide +kernel), List.mem_of_getElem? (i := 1102) (by decide +kernel), List.mem_of_getElem? (i := 1103) (by decide +kernel)⟩
theorem lw_p42 : lw_okq (⟨"MilestoneMaidsModel", "place", "(I)I"⟩, 72) := ⟨⟨by decide +kernel, by decide +kernel⟩, List.mem_of_getElem? (i := 782) (by decide +kernel), List.mem_of_getElem? (i := 1106) (by decide +kernel), List.mem_of_getElem? (i := 1107) (by decide +kernel)⟩
theorem lw_p43 : lw_okq (⟨"MilestoneMaidsModel", "emits", "(I)V"⟩, 72) := ⟨⟨by decide +kernel, by decide +kernel⟩, List.mem_of_getElem? (i := 782) (by decide +kernel), List.mem_of_getElem? (i := 1110) (by decide +kernel), List.mem_of_getElem? (i := 1111) (by decide +kernel)⟩
theorem lw_p44 : lw_okq (⟨"MilestoneMaidsModel", "whole", "()V"⟩, 72) := ⟨⟨by decide +kernel, by decide +kernel⟩, List.mem_of_getElem? (i := 782) (by decide +kernel), List.mem_of_getElem? (i := 1114) (by decide +kernel), List.mem_of_getElem? (i := 1115) (by decide +kernel)⟩
theorem lw_p45 : lw_okq (⟨"MilestoneMaidsModel", "settle", "(I)V"⟩, 72) := ⟨⟨by decide +kernel, by decide +kernel⟩, List.mem_of_getElem? (i := 782) (by decide +kernel), List.mem_of_getElem? (i := 1118) (by decide +kernel), List.mem_of_getElem? (i := 1119) (by decide +kernel)⟩
theorem lw_p46 : lw_okq (⟨"MilestoneMaidsModel", "otherwise", "(I)I"⟩, 72) := ⟨⟨by decide +kernel, by decide +kernel⟩, List.mem_of_getElem? (i := 782) (by decide +kernel), List.mem_of_getElem? (i := 1126) (by decide +kernel), List.mem_of_getElem? (i := 1127) (by decide +kernel)⟩
theorem lw_p47 : lw_okq (⟨"MilestoneMaidsModel", "passesOn", "(II)I"⟩, 72) := ⟨⟨by decide +kernel, by decide +kernel⟩, List.mem_of_getElem? (i := 782) (by decide +kernel), List.mem_of_getElem? (i := 1130) (by decide +kernel), List.mem_of_getElem? (i := 1131) (by decide +kernel)⟩
def lw_privs_3 : List (MethodName × Nat) := [(⟨"MilestoneMaidsModel", "goesText", "(I)Z"⟩, 72), (⟨"MilestoneMaidsModel", "takesClause", "(I)Z"⟩, 72), (⟨"MilestoneMaidsModel", "takesHead", "(I)Z"⟩, 72), (⟨"MilestoneMaidsModel", "next", "()I"⟩, 72), (⟨"MilestoneMaidsModel", "takesWord", "(II)Z"⟩, 72), (⟨"MilestoneMaidsModel", "takes", "(I)Z"⟩, 72), (⟨"MilestoneMaidsModel", "takesNumber", "()Z"⟩, 72), (⟨"MilestoneMaidsModel", "isDigit", "()Z"⟩, 72), (⟨"MilestoneMaidsModel", "takesE", "(I)Z"⟩, 72), (⟨"MilestoneMaidsModel", "takesTest", "()Z"⟩, 72), (⟨"MilestoneMaidsModel", "place", "(I)I"⟩, 72), (⟨"MilestoneMaidsModel", "emits", "(I)V"⟩, 72), (⟨"MilestoneMaidsModel", "whole", "()V"⟩, 72), (⟨"MilestoneMaidsModel", "settle", "(I)V"⟩, 72), (⟨"MilestoneMaidsModel", "otherwise", "(I)I"⟩, 72), (⟨"MilestoneMaidsModel", "passesOn", "(II)I"⟩, 72)]
theorem lw_r3 : ∀ q ∈ lw_privs_3, lw_okq q := List.forall_mem_cons.mpr ⟨lw_p32, List.forall_mem_cons.mpr ⟨lw_p33, List.forall_mem_cons.mpr ⟨lw_p34, List.forall_mem_cons.mpr ⟨lw_p35, List.forall_mem_cons.mpr ⟨lw_p36, List.forall_mem_cons.mpr ⟨lw_p37, List.forall_mem_cons.mpr ⟨lw_p38, List.forall_mem_cons.mpr ⟨lw_p39, List.forall_mem_cons.mpr ⟨lw_p40, List.forall_mem_cons.mpr ⟨lw_p41, List.forall_mem_cons.mpr ⟨lw_p42, List.forall_mem_cons.mpr ⟨lw_p43, List.forall_mem_cons.mpr ⟨lw_p44, List.forall_mem_cons.mpr ⟨lw_p45, List.forall_mem_cons.mpr ⟨lw_p46, List.forall_mem_cons.mpr ⟨lw_p47, fun _ h => absurd h List.not_mem_nil⟩⟩⟩⟩⟩⟩⟩⟩⟩⟩⟩⟩⟩⟩⟩⟩
theorem lw_p48 : lw_okq (⟨"MilestoneMaidsModel", "isHeeded", "(II)Z"⟩, 72) := ⟨⟨by decide +kernel, by decide +kernel⟩, List.mem_of_getElem? (i := 782) (by decide +kernel), List.mem_of_getElem? (i := 1134) (by decide +kernel), List.mem_of_getElem? (i := 1135) (by decide +kernel)⟩
theorem lw_p49 : lw_okq (⟨"MilestoneMaidsModel", "begin", "()I"⟩, 72) := ⟨⟨by decide +kernel, by decide +kernel⟩, List.mem_of_getElem? (i := 782) (by decide +kernel), List.mem_of_getElem? (i := 1138) (by decide +kernel), List.mem_of_getElem? (i := 1139) (by decide +kernel)⟩
theorem lw_p50 : lw_okq (⟨"MilestoneMaidsModel", "behind", "()I"⟩, 72) := ⟨⟨by decide +kernel, by decide +kernel⟩, List.mem_of_getElem? (i := 782) (by decide +kernel), List.mem_of_getElem? (i := 1142) (by decide +kernel), List.mem_of_getElem? (i := 1143) (by decide +kernel)⟩
theorem lw_p51 : lw_okq (⟨"MilestoneMaidsModel", "holds", "(III)Z"⟩, 72) := ⟨⟨by decide +kernel, by decide +kernel⟩, List.mem_of_getElem? (i := 782) (by decide +kernel), List.mem_of_getElem? (i := 1146) (by decide +kernel), List.mem_of_getElem? (i := 1147) (by decide +kernel)⟩
theorem lw_p52 : lw_okq (⟨"MilestoneMaidsModel", "factOf", "(III)I"⟩, 72) := ⟨⟨by decide +kernel, by decide +kernel⟩, List.mem_of_getElem? (i := 782) (by decide +kernel), List.mem_of_getElem? (i := 1150) (by decide +kernel), List.mem_of_getElem? (i := 1151) (by decide +kernel)⟩
theorem lw_p53 : lw_okq (⟨"MilestoneMaidsModel", "bits", "(I)I"⟩, 72) := ⟨⟨by decide +kernel, by decide +kernel⟩, List.mem_of_getElem? (i := 782) (by decide +kernel), List.mem_of_getElem? (i := 1154) (by decide +kernel), List.mem_of_getElem? (i := 1155) (by decide +kernel)⟩
theorem lw_p54 : lw_okq (⟨"MilestoneMaidsModel", "says", "(II)I"⟩, 72) := ⟨⟨by decide +kernel, by decide +kernel⟩, List.mem_of_getElem? (i := 782) (by decide +kernel), List.mem_of_getElem? (i := 1158) (by decide +kernel), List.mem_of_getElem? (i := 1159) (by decide +kernel)⟩
theorem lw_p55 : lw_okq (⟨"MilestoneMaidsModel", "turned", "(II)I"⟩, 72) := ⟨⟨by decide +kernel, by decide +kernel⟩, List.mem_of_getElem? (i := 782) (by decide +kernel), List.mem_of_getElem? (i := 1162) (by decide +kernel), List.mem_of_getElem? (i := 1163) (by decide +kernel)⟩
theorem lw_p56 : lw_okq (⟨"MilestoneMaidsModel", "wiped", "(I)I"⟩, 72) := ⟨⟨by decide +kernel, by decide +kernel⟩, List.mem_of_getElem? (i := 782) (by decide +kernel), List.mem_of_getElem? (i := 1166) (by decide +kernel), List.mem_of_getElem? (i := 1167) (by decide +kernel)⟩
theorem lw_p57 : lw_okq (⟨"MilestoneMaidsModel", "isDays", "(I)Z"⟩, 72) := ⟨⟨by decide +kernel, by decide +kernel⟩, List.mem_of_getElem? (i := 782) (by decide +kernel), List.mem_of_getElem? (i := 1178) (by decide +kernel), List.mem_of_getElem? (i := 1179) (by decide +kernel)⟩
theorem lw_p58 : lw_okq (⟨"MilestoneMaidsModel", "goDays", "(I)V"⟩, 72) := ⟨⟨by decide +kernel, by decide +kernel⟩, List.mem_of_getElem? (i := 782) (by decide +kernel), List.mem_of_getElem? (i := 1182) (by decide +kernel), List.mem_of_getElem? (i := 1183) (by decide +kernel)⟩
theorem lw_p59 : lw_okq (⟨"MilestoneMaidsModel", "goDay", "()V"⟩, 72) := ⟨⟨by decide +kernel, by decide +kernel⟩, List.mem_of_getElem? (i := 782) (by decide +kernel), List.mem_of_getElem? (i := 1186) (by decide +kernel), List.mem_of_getElem? (i := 1187) (by decide +kernel)⟩
theorem lw_p60 : lw_okq (⟨"MilestoneMaidsModel", "isIn", "(I)Z"⟩, 72) := ⟨⟨by decide +kernel, by decide +kernel⟩, List.mem_of_getElem? (i := 782) (by decide +kernel), List.mem_of_getElem? (i := 1190) (by decide +kernel), List.mem_of_getElem? (i := 1191) (by decide +kernel)⟩
theorem lw_p61 : lw_okq (⟨"MilestoneMaidsModel", "many", "()I"⟩, 72) := ⟨⟨by decide +kernel, by decide +kernel⟩, List.mem_of_getElem? (i := 782) (by decide +kernel), List.mem_of_getElem? (i := 1194) (by decide +kernel), List.mem_of_getElem? (i := 1195) (by decide +kernel)⟩
theorem lw_p62 : lw_okq (⟨"MilestoneMaidsModel", "comes", "(I)I"⟩, 72) := ⟨⟨by decide +kernel, by decide +kernel⟩, List.mem_of_getElem? (i := 782) (by decide +kernel), List.mem_of_getElem? (i := 1202) (by decide +kernel), List.mem_of_getElem? (i := 1203) (by decide +kernel)⟩
theorem lw_p63 : lw_okq (⟨"MilestoneMaidsModel", "save", "()V"⟩, 72) := ⟨⟨by decide +kernel, by decide +kernel⟩, List.mem_of_getElem? (i := 782) (by decide +kernel), List.mem_of_getElem? (i := 1206) (by decide +kernel), List.mem_of_getElem? (i := 1207) (by decide +kernel)⟩
def lw_privs_4 : List (MethodName × Nat) := [(⟨"MilestoneMaidsModel", "isHeeded", "(II)Z"⟩, 72), (⟨"MilestoneMaidsModel", "begin", "()I"⟩, 72), (⟨"MilestoneMaidsModel", "behind", "()I"⟩, 72), (⟨"MilestoneMaidsModel", "holds", "(III)Z"⟩, 72), (⟨"MilestoneMaidsModel", "factOf", "(III)I"⟩, 72), (⟨"MilestoneMaidsModel", "bits", "(I)I"⟩, 72), (⟨"MilestoneMaidsModel", "says", "(II)I"⟩, 72), (⟨"MilestoneMaidsModel", "turned", "(II)I"⟩, 72), (⟨"MilestoneMaidsModel", "wiped", "(I)I"⟩, 72), (⟨"MilestoneMaidsModel", "isDays", "(I)Z"⟩, 72), (⟨"MilestoneMaidsModel", "goDays", "(I)V"⟩, 72), (⟨"MilestoneMaidsModel", "goDay", "()V"⟩, 72), (⟨"MilestoneMaidsModel", "isIn", "(I)Z"⟩, 72), (⟨"MilestoneMaidsModel", "many", "()I"⟩, 72), (⟨"MilestoneMaidsModel", "comes", "(I)I"⟩, 72), (⟨"MilestoneMaidsModel", "save", "()V"⟩, 72)]
theorem lw_r4 : ∀ q ∈ lw_privs_4, lw_okq q := List.forall_mem_cons.mpr ⟨lw_p48, List.forall_mem_cons.mpr ⟨lw_p49, List.forall_mem_cons.mpr ⟨lw_p50, List.forall_mem_cons.mpr ⟨lw_p51, List.forall_mem_cons.mpr ⟨lw_p52, List.forall_mem_cons.mpr ⟨lw_p53, List.forall_mem_cons.mpr ⟨lw_p54, List.forall_mem_cons.mpr ⟨lw_p55, List.forall_mem_cons.mpr ⟨lw_p56, List.forall_mem_cons.mpr ⟨lw_p57, List.forall_mem_cons.mpr ⟨lw_p58, List.forall_mem_cons.mpr ⟨lw_p59, List.forall_mem_cons.mpr ⟨lw_p60, List.forall_mem_cons.mpr ⟨lw_p61, List.forall_mem_cons.mpr ⟨lw_p62, List.forall_mem_cons.mpr ⟨lw_p63, fun _ h => absurd h List.not_mem_nil⟩⟩⟩⟩⟩⟩⟩⟩⟩⟩⟩⟩⟩⟩⟩⟩
theorem lw_p64 : lw_okq (⟨"MilestoneMaidsModel", "putBack", "()V"⟩, 72) := ⟨⟨by decide +kernel, by decide +kernel⟩, List.mem_of_getElem? (i := 782) (by decide +kernel), List.mem_of_getElem? (i := 1210) (by decide +kernel), List.mem_of_getElem? (i := 1211) (by decide +kernel)⟩
theorem lw_p65 : lw_okq (⟨"MilestoneMaidsModel", "inMany", "()I"⟩, 72) := ⟨⟨by decide +kernel, by decide +kernel⟩, List.mem_of_getElem? (i := 782) (by decide +kernel), List.mem_of_getElem? (i := 1218) (by decide +kernel), List.mem_of_getElem? (i := 1219) (by decide +kernel)⟩
theorem lw_p66 : lw_okq (⟨"MilestoneMaidsModel", "backMany", "()I"⟩, 72) := ⟨⟨by decide +kernel, by decide +kernel⟩, List.mem_of_getElem? (i := 782) (by decide +kernel), List.mem_of_getElem? (i := 1222) (by decide +kernel), List.mem_of_getElem? (i := 1223) (by decide +kernel)⟩
theorem lw_p67 : lw_okq (⟨"MilestoneMaidsModel", "mostOf", "()I"⟩, 72) := ⟨⟨by decide +kernel, by decide +kernel⟩, List.mem_of_getElem? (i := 782) (by decide +kernel), List.mem_of_getElem? (i := 1226) (by decide +kernel), List.mem_of_getElem? (i := 1227) (by decide +kernel)⟩
theorem lw_p68 : lw_okq (⟨"MilestoneMaidsModel", "throughOf", "(I)I"⟩, 72) := ⟨⟨by decide +kernel, by decide +kernel⟩, List.mem_of_getElem? (i := 782) (by decide +kernel), List.mem_of_getElem? (i := 1238) (by decide +kernel), List.mem_of_getElem? (i := 1239) (by decide +kernel)⟩
theorem lw_p69 : lw_okq (⟨"MilestoneMaidsModel", "layTurn", "(I)Z"⟩, 72) := ⟨⟨by decide +kernel, by decide +kernel⟩, List.mem_of_getElem? (i := 782) (by decide +kernel), List.mem_of_getElem? (i := 1250) (by decide +kernel), List.mem_of_getElem? (i := 1251) (by decide +kernel)⟩
theorem lw_p70 : lw_okq (⟨"MilestoneMaidsModel", "isSeen", "(I)Z"⟩, 72) := ⟨⟨by decide +kernel, by decide +kernel⟩, List.mem_of_getElem? (i := 782) (by decide +kernel), List.mem_of_getElem? (i := 1266) (by decide +kernel), List.mem_of_getElem? (i := 1267) (by decide +kernel)⟩
theorem lw_p71 : lw_okq (⟨"MilestoneMaidsModel", "lowest", "(III)J"⟩, 72) := ⟨⟨by decide +kernel, by decide +kernel⟩, List.mem_of_getElem? (i := 782) (by decide +kernel), List.mem_of_getElem? (i := 1283) (by decide +kernel), List.mem_of_getElem? (i := 1284) (by decide +kernel)⟩
theorem lw_p72 : lw_okq (⟨"MilestoneMaidsModel", "divisor", "(II)I"⟩, 72) := ⟨⟨by decide +kernel, by decide +kernel⟩, List.mem_of_getElem? (i := 782) (by decide +kernel), List.mem_of_getElem? (i := 1287) (by decide +kernel), List.mem_of_getElem? (i := 1288) (by decide +kernel)⟩
theorem lw_p73 : lw_okq (⟨"MilestoneMaidsModel", "goPlan", "(II)V"⟩, 72) := ⟨⟨by decide +kernel, by decide +kernel⟩, List.mem_of_getElem? (i := 782) (by decide +kernel), List.mem_of_getElem? (i := 1303) (by decide +kernel), List.mem_of_getElem? (i := 1304) (by decide +kernel)⟩
theorem lw_p74 : lw_okq (⟨"MilestoneMaidsModel", "isTape", "(I)Z"⟩, 72) := ⟨⟨by decide +kernel, by decide +kernel⟩, List.mem_of_getElem? (i := 782) (by decide +kernel), List.mem_of_getElem? (i := 1319) (by decide +kernel), List.mem_of_getElem? (i := 1320) (by decide +kernel)⟩
theorem lw_p75 : lw_okq (⟨"MilestoneMaidsModel", "looksAct", "(II)I"⟩, 72) := ⟨⟨by decide +kernel, by decide +kernel⟩, List.mem_of_getElem? (i := 782) (by decide +kernel), List.mem_of_getElem? (i := 1335) (by decide +kernel), List.mem_of_getElem? (i := 1336) (by decide +kernel)⟩
theorem lw_p76 : lw_okq (⟨"MilestoneMaidsModel", "body", "(I)V"⟩, 72) := ⟨⟨by decide +kernel, by decide +kernel⟩, List.mem_of_getElem? (i := 782) (by decide +kernel), List.mem_of_getElem? (i := 1339) (by decide +kernel), List.mem_of_getElem? (i := 1340) (by decide +kernel)⟩
theorem lw_p77 : lw_okq (⟨"MilestoneMaidsModel", "maidLooks", "(II)I"⟩, 72) := ⟨⟨by decide +kernel, by decide +kernel⟩, List.mem_of_getElem? (i := 782) (by decide +kernel), List.mem_of_getElem? (i := 1343) (by decide +kernel), List.mem_of_getElem? (i := 1344) (by decide +kernel)⟩
theorem lw_p78 : lw_okq (⟨"MilestoneMaidsModel", "saysAct", "(II)I"⟩, 72) := ⟨⟨by decide +kernel, by decide +kernel⟩, List.mem_of_getElem? (i := 782) (by decide +kernel), List.mem_of_getElem? (i := 1347) (by decide +kernel), List.mem_of_getElem? (i := 1348) (by decide +kernel)⟩
theorem lw_p79 : lw_okq (⟨"MilestoneMaidsModel", "setterSays", "(II)I"⟩, 72) := ⟨⟨by decide +kernel, by decide +kernel⟩, List.mem_of_getElem? (i := 782) (by decide +kernel), List.mem_of_getElem? (i := 1351) (by decide +kernel), List.mem_of_getElem? (i := 1352) (by decide +kernel)⟩
def lw_privs_5 : List (MethodName × Nat) := [(⟨"MilestoneMaidsModel", "putBack", "()V"⟩, 72), (⟨"MilestoneMaidsModel", "inMany", "()I"⟩, 72), (⟨"MilestoneMaidsModel", "backMany", "()I"⟩, 72), (⟨"MilestoneMaidsModel", "mostOf", "()I"⟩, 72), (⟨"MilestoneMaidsModel", "throughOf", "(I)I"⟩, 72), (⟨"MilestoneMaidsModel", "layTurn", "(I)Z"⟩, 72), (⟨"MilestoneMaidsModel", "isSeen", "(I)Z"⟩, 72), (⟨"MilestoneMaidsModel", "lowest", "(III)J"⟩, 72), (⟨"MilestoneMaidsModel", "divisor", "(II)I"⟩, 72), (⟨"MilestoneMaidsModel", "goPlan", "(II)V"⟩, 72), (⟨"MilestoneMaidsModel", "isTape", "(I)Z"⟩, 72), (⟨"MilestoneMaidsModel", "looksAct", "(II)I"⟩, 72), (⟨"MilestoneMaidsModel", "body", "(I)V"⟩, 72), (⟨"MilestoneMaidsModel", "maidLooks", "(II)I"⟩, 72), (⟨"MilestoneMaidsModel", "saysAct", "(II)I"⟩, 72), (⟨"MilestoneMaidsModel", "setterSays", "(II)I"⟩, 72)]
theorem lw_r5 : ∀ q ∈ lw_privs_5, lw_okq q := List.forall_mem_cons.mpr ⟨lw_p64, List.forall_mem_cons.mpr ⟨lw_p65, List.forall_mem_cons.mpr ⟨lw_p66, List.forall_mem_cons.mpr ⟨lw_p67, List.forall_mem_cons.mpr ⟨lw_p68, List.forall_mem_cons.mpr ⟨lw_p69, List.forall_mem_cons.mpr ⟨lw_p70, List.forall_mem_cons.mpr ⟨lw_p71, List.forall_mem_cons.mpr ⟨lw_p72, List.forall_mem_cons.mpr ⟨lw_p73, List.forall_mem_cons.mpr ⟨lw_p74, List.forall_mem_cons.mpr ⟨lw_p75, List.forall_mem_cons.mpr ⟨lw_p76, List.forall_mem_cons.mpr ⟨lw_p77, List.forall_mem_cons.mpr ⟨lw_p78, List.forall_mem_cons.mpr ⟨lw_p79, fun _ h => absurd h List.not_mem_nil⟩⟩⟩⟩⟩⟩⟩⟩⟩⟩⟩⟩⟩⟩⟩⟩
theorem lw_p80 : lw_okq (⟨"MilestoneMaidsModel", "maidSays", "(II)I"⟩, 72) := ⟨⟨by decide +kernel, by decide +kernel⟩, List.mem_of_getElem? (i := 782) (by decide +kernel), List.mem_of_getElem? (i := 1355) (by decide +kernel), List.mem_of_getElem? (i := 1356) (by decide +kernel)⟩
theorem lw_p81 : lw_okq (⟨"MilestoneMaidsModel", "tellsAct", "(II)I"⟩, 72) := ⟨⟨by decide +kernel, by decide +kernel⟩, List.mem_of_getElem? (i := 782) (by decide +kernel), List.mem_of_getElem? (i := 1359) (by decide +kernel), List.mem_of_getElem? (i := 1360) (by decide +kernel)⟩
theorem lw_p82 : lw_okq (⟨"MilestoneMaidsModel", "maidTells", "(II)I"⟩, 72) := ⟨⟨by decide +kernel, by decide +kernel⟩, List.mem_of_getElem? (i := 782) (by decide +kernel), List.mem_of_getElem? (i := 1363) (by decide +kernel), List.mem_of_getElem? (i := 1364) (by decide +kernel)⟩
theorem lw_p83 : lw_okq (⟨"MilestoneMaidsModel", "narrow", "(IJ)J"⟩, 72) := ⟨⟨by decide +kernel, by decide +kernel⟩, List.mem_of_getElem? (i := 782) (by decide +kernel), List.mem_of_getElem? (i := 1387) (by decide +kernel), List.mem_of_getElem? (i := 1388) (by decide +kernel)⟩
def lw_privs_6 : List (MethodName × Nat) := [(⟨"MilestoneMaidsModel", "maidSays", "(II)I"⟩, 72), (⟨"MilestoneMaidsModel", "tellsAct", "(II)I"⟩, 72), (⟨"MilestoneMaidsModel", "maidTells", "(II)I"⟩, 72), (⟨"MilestoneMaidsModel", "narrow", "(IJ)J"⟩, 72)]
theorem lw_r6 : ∀ q ∈ lw_privs_6, lw_okq q := List.forall_mem_cons.mpr ⟨lw_p80, List.forall_mem_cons.mpr ⟨lw_p81, List.forall_mem_cons.mpr ⟨lw_p82, List.forall_mem_cons.mpr ⟨lw_p83, fun _ h => absurd h List.not_mem_nil⟩⟩⟩⟩
def lw_privs : List (MethodName × Nat) := lw_privs_1 ++ (lw_privs_2 ++ (lw_privs_3 ++ (lw_privs_4 ++ (lw_privs_5 ++ (lw_privs_6)))))
def lw_tbl : List Cond := k2_sels lw_privs ++ tables_1
theorem lw_privs_ok : ∀ q ∈ lw_privs, lw_okq q := by
  show ∀ q ∈ lw_privs_1 ++ (lw_privs_2 ++ (lw_privs_3 ++ (lw_privs_4 ++ (lw_privs_5 ++ (lw_privs_6))))), lw_okq q
  exact List.forall_mem_append.mpr ⟨lw_r1, List.forall_mem_append.mpr ⟨lw_r2, List.forall_mem_append.mpr ⟨lw_r3, List.forall_mem_append.mpr ⟨lw_r4, List.forall_mem_append.mpr ⟨lw_r5, lw_r6⟩⟩⟩⟩⟩

def RX0 : String := "MilestoneMaids$Actor"
def TX0 : u_T := fun k => match k with
  | 0 => ("MilestoneMaids$Actor", "bodies", "[I", true)
  | 1 => ("MilestoneMaids$Actor", "ran", "I", false)
  | 2 => ("MilestoneMaids$Actor", "number", "I", false)
  | 3 => ("MilestoneMaids$Actor", "kind", "I", false)
  | _ => ("MilestoneMaids$Actor", "v", "I", false)
def tyX0 : Nat → FieldType := fun k => match k with
  | 0 => .array .int
  | 1 => .int
  | 2 => .int
  | 3 => .int
  | _ => .int
theorem nmX0 : ∀ a, a < 5 → ∀ b, b < 5 → a ≠ b → (TX0 a).2.1 ≠ (TX0 b).2.1 := by decide +kernel
theorem tyX0_ok : ∀ k, k < 5 → parseFieldDescriptor (TX0 k).2.2.1 = some (tyX0 k) := by decide +kernel
abbrev cX0_init : ByteArray := prog_2_method_1_code
def yX0_init : MethodName := ⟨RX0, "<init>", "()V"⟩
abbrev cX0_forget : ByteArray := prog_2_method_2_code
def yX0_forget : MethodName := ⟨RX0, "forget", "()V"⟩
abbrev cX0_kept : ByteArray := prog_2_method_3_code
def yX0_kept : MethodName := ⟨RX0, "kept", "()I"⟩
abbrev cX0_perform : ByteArray := prog_2_method_4_code
def yX0_perform : MethodName := ⟨RX0, "perform", "(IIIII)I"⟩
abbrev cX0_run : ByteArray := prog_2_method_5_code
def yX0_run : MethodName := ⟨RX0, "run", "(IIII)I"⟩
abbrev cX0_note : ByteArray := prog_2_method_6_code
def yX0_note : MethodName := ⟨RX0, "note", "(I)V"⟩
abbrev cX0_runBody : ByteArray := prog_2_method_7_code
def yX0_runBody : MethodName := ⟨RX0, "runBody", "(III)I"⟩
def RX1 : String := "MilestoneMaids$OrderSearch"
def TX1 : u_T := fun k => match k with
  | 0 => ("MilestoneMaids$OrderSearch", "unlike", "I", false)
  | 1 => ("MilestoneMaids$OrderSearch", "best", "[I", true)
  | 2 => ("MilestoneMaids$OrderSearch", "tried", "[I", true)
  | _ => ("MilestoneMaids$OrderSearch", "wanted", "I", false)
def tyX1 : Nat → FieldType := fun k => match k with
  | 0 => .int
  | 1 => .array .int
  | 2 => .array .int
  | _ => .int
theorem nmX1 : ∀ a, a < 4 → ∀ b, b < 4 → a ≠ b → (TX1 a).2.1 ≠ (TX1 b).2.1 := by decide +kernel
theorem tyX1_ok : ∀ k, k < 4 → parseFieldDescriptor (TX1 k).2.2.1 = some (tyX1 k) := by decide +kernel
abbrev cX1_init : ByteArray := prog_3_method_1_code
def yX1_init : MethodName := ⟨RX1, "<init>", "()V"⟩
abbrev cX1_search : ByteArray := prog_3_method_2_code
def yX1_search : MethodName := ⟨RX1, "search", "(LMilestoneMaids$Stage;II)V"⟩
abbrev cX1_goOn : ByteArray := prog_3_method_3_code
def yX1_goOn : MethodName := ⟨RX1, "goOn", "(LMilestoneMaids$Stage;III)V"⟩
abbrev cX1_goOnBy : ByteArray := prog_3_method_4_code
def yX1_goOnBy : MethodName := ⟨RX1, "goOnBy", "(ILMilestoneMaids$Stage;III)V"⟩
abbrev cX1_take : ByteArray := prog_3_method_5_code
def yX1_take : MethodName := ⟨RX1, "take", "(I)V"⟩
def RX2 : String := "MilestoneMaids$Pairs"
def TX2 : u_T := fun k => match k with
  | 0 => ("MilestoneMaids$Pairs", "length", "I", false)
  | 1 => ("MilestoneMaids$Pairs", "firsts", "[I", true)
  | _ => ("MilestoneMaids$Pairs", "seconds", "[I", true)
def tyX2 : Nat → FieldType := fun k => match k with
  | 0 => .int
  | 1 => .array .int
  | _ => .array .int
theorem nmX2 : ∀ a, a < 3 → ∀ b, b < 3 → a ≠ b → (TX2 a).2.1 ≠ (TX2 b).2.1 := by decide +kernel
theorem tyX2_ok : ∀ k, k < 3 → parseFieldDescriptor (TX2 k).2.2.1 = some (tyX2 k) := by decide +kernel
abbrev cX2_init : ByteArray := prog_4_method_1_code
def yX2_init : MethodName := ⟨RX2, "<init>", "(I)V"⟩
abbrev cX2_isFull : ByteArray := prog_4_method_2_code
def yX2_isFull : MethodName := ⟨RX2, "isFull", "()Z"⟩
abbrev cX2_append : ByteArray := prog_4_method_3_code
def yX2_append : MethodName := ⟨RX2, "append", "(II)I"⟩
abbrev cX2_empty : ByteArray := prog_4_method_4_code
def yX2_empty : MethodName := ⟨RX2, "empty", "()I"⟩
abbrev cX2_copy : ByteArray := prog_4_method_5_code
def yX2_copy : MethodName := ⟨RX2, "copy", "(LMilestoneMaids$Pairs;)V"⟩
def RX3 : String := "MilestoneMaids$Stage"
def TX3 : u_T := fun k => match k with
  | 0 => ("MilestoneMaids$Stage", "day", "I", false)
  | 1 => ("MilestoneMaids$Stage", "maids", "I", false)
  | 2 => ("MilestoneMaids$Stage", "kinds", "[I", true)
  | 3 => ("MilestoneMaids$Stage", "numbers", "[I", true)
  | 4 => ("MilestoneMaids$Stage", "out", "I", false)
  | 5 => ("MilestoneMaids$Stage", "rows", "[I", true)
  | 6 => ("MilestoneMaids$Stage", "pilgrims", "I", false)
  | 7 => ("MilestoneMaids$Stage", "marks", "[I", true)
  | 8 => ("MilestoneMaids$Stage", "places", "[I", true)
  | 9 => ("MilestoneMaids$Stage", "back", "I", false)
  | 10 => ("MilestoneMaids$Stage", "seen", "LMilestoneMaids$Pairs;", true)
  | 11 => ("MilestoneMaids$Stage", "plan", "LMilestoneMaids$Pairs;", true)
  | 12 => ("MilestoneMaids$Stage", "book", "LMilestoneMaids$Pairs;", true)
  | _ => ("MilestoneMaids$Stage", "way", "LMilestoneMaids$Way;", false)
def tyX3 : Nat → FieldType := fun k => match k with
  | 0 => .int
  | 1 => .int
  | 2 => .array .int
  | 3 => .array .int
  | 4 => .int
  | 5 => .array .int
  | 6 => .int
  | 7 => .array .int
  | 8 => .array .int
  | 9 => .int
  | 10 => .object "MilestoneMaids$Pairs"
  | 11 => .object "MilestoneMaids$Pairs"
  | 12 => .object "MilestoneMaids$Pairs"
  | _ => .object "MilestoneMaids$Way"
theorem nmX3 : ∀ a, a < 14 → ∀ b, b < 14 → a ≠ b → (TX3 a).2.1 ≠ (TX3 b).2.1 := by decide +kernel
theorem tyX3_ok : ∀ k, k < 14 → parseFieldDescriptor (TX3 k).2.2.1 = some (tyX3 k) := by decide +kernel
abbrev cX3_init : ByteArray := prog_5_method_1_code
def yX3_init : MethodName := ⟨RX3, "<init>", "()V"⟩
abbrev cX3_copy : ByteArray := prog_5_method_2_code
def yX3_copy : MethodName := ⟨RX3, "copy", "(LMilestoneMaids$Stage;)V"⟩
abbrev cX3_addMaid : ByteArray := prog_5_method_3_code
def yX3_addMaid : MethodName := ⟨RX3, "addMaid", "(II)I"⟩
abbrev cX3_addPilgrim : ByteArray := prog_5_method_4_code
def yX3_addPilgrim : MethodName := ⟨RX3, "addPilgrim", "(I)I"⟩
abbrev cX3_isOut : ByteArray := prog_5_method_5_code
def yX3_isOut : MethodName := ⟨RX3, "isOut", "(I)Z"⟩
abbrev cX3_putOut : ByteArray := prog_5_method_6_code
def yX3_putOut : MethodName := ⟨RX3, "putOut", "(IZ)V"⟩
abbrev cX3_isBack : ByteArray := prog_5_method_7_code
def yX3_isBack : MethodName := ⟨RX3, "isBack", "(I)Z"⟩
abbrev cX3_turn : ByteArray := prog_5_method_8_code
def yX3_turn : MethodName := ⟨RX3, "turn", "(I)V"⟩
abbrev cX3_many : ByteArray := prog_5_method_9_code
def yX3_many : MethodName := ⟨RX3, "many", "()I"⟩
abbrev cX3_said : ByteArray := prog_5_method_10_code
def yX3_said : MethodName := ⟨RX3, "said", "(IIII)I"⟩
abbrev cX3_turned : ByteArray := prog_5_method_11_code
def yX3_turned : MethodName := ⟨RX3, "turned", "(II)I"⟩
abbrev cX3_wiped : ByteArray := prog_5_method_12_code
def yX3_wiped : MethodName := ⟨RX3, "wiped", "(I)I"⟩
abbrev cX3_passedOn : ByteArray := prog_5_method_13_code
def yX3_passedOn : MethodName := ⟨RX3, "passedOn", "(IIII)I"⟩
abbrev cX3_passedOnToday : ByteArray := prog_5_method_14_code
def yX3_passedOnToday : MethodName := ⟨RX3, "passedOnToday", "(II)I"⟩
abbrev cX3_throughAll : ByteArray := prog_5_method_15_code
def yX3_throughAll : MethodName := ⟨RX3, "throughAll", "(II)I"⟩
abbrev cX3_changesBy : ByteArray := prog_5_method_16_code
def yX3_changesBy : MethodName := ⟨RX3, "changesBy", "(I)I"⟩
abbrev cX3_most : ByteArray := prog_5_method_17_code
def yX3_most : MethodName := ⟨RX3, "most", "()I"⟩
abbrev cX3_fewestDoused : ByteArray := prog_5_method_18_code
def yX3_fewestDoused : MethodName := ⟨RX3, "fewestDoused", "(II)I"⟩
abbrev cX3_passesAsSeen : ByteArray := prog_5_method_19_code
def yX3_passesAsSeen : MethodName := ⟨RX3, "passesAsSeen", "(III)Z"⟩
abbrev cX3_goDays : ByteArray := prog_5_method_20_code
def yX3_goDays : MethodName := ⟨RX3, "goDays", "(I)V"⟩
abbrev cX3_meet : ByteArray := prog_5_method_21_code
def yX3_meet : MethodName := ⟨RX3, "meet", "(I)V"⟩
abbrev cX3_followPlan : ByteArray := prog_5_method_22_code
def yX3_followPlan : MethodName := ⟨RX3, "followPlan", "()V"⟩
abbrev cX3_firstOtherwiseInBook : ByteArray := prog_5_method_23_code
def yX3_firstOtherwiseInBook : MethodName := ⟨RX3, "firstOtherwiseInBook", "()I"⟩
abbrev cX3_howManyIn : ByteArray := prog_5_method_24_code
def yX3_howManyIn : MethodName := ⟨RX3, "howManyIn", "()I"⟩
abbrev cX3_howManyBack : ByteArray := prog_5_method_25_code
def yX3_howManyBack : MethodName := ⟨RX3, "howManyBack", "()I"⟩
abbrev cX3_marksTogether : ByteArray := prog_5_method_26_code
def yX3_marksTogether : MethodName := ⟨RX3, "marksTogether", "()I"⟩
def RX4 : String := "MilestoneMaids$Tape"
def TX4 : u_T := fun k => match k with
  | 0 => ("MilestoneMaids$Tape", "sort", "I", false)
  | 1 => ("MilestoneMaids$Tape", "length", "I", false)
  | _ => ("MilestoneMaids$Tape", "items", "[J", true)
def tyX4 : Nat → FieldType := fun k => match k with
  | 0 => .int
  | 1 => .int
  | _ => .array .long
theorem nmX4 : ∀ a, a < 3 → ∀ b, b < 3 → a ≠ b → (TX4 a).2.1 ≠ (TX4 b).2.1 := by decide +kernel
theorem tyX4_ok : ∀ k, k < 3 → parseFieldDescriptor (TX4 k).2.2.1 = some (tyX4 k) := by decide +kernel
abbrev cX4_init : ByteArray := prog_6_method_1_code
def yX4_init : MethodName := ⟨RX4, "<init>", "()V"⟩
abbrev cX4_become : ByteArray := prog_6_method_2_code
def yX4_become : MethodName := ⟨RX4, "become", "(II)V"⟩
abbrev cX4_hasItem : ByteArray := prog_6_method_3_code
def yX4_hasItem : MethodName := ⟨RX4, "hasItem", "(I)Z"⟩
abbrev cX4_hasPart : ByteArray := prog_6_method_4_code
def yX4_hasPart : MethodName := ⟨RX4, "hasPart", "(II)Z"⟩
abbrev cX4_put : ByteArray := prog_6_method_5_code
def yX4_put : MethodName := ⟨RX4, "put", "(IJ)V"⟩
def RX5 : String := "MilestoneMaids$Way"
def TX5 : u_T := fun k => match k with
  | 0 => ("MilestoneMaids$Way", "many", "I", true)
  | _ => ("MilestoneMaids$Way", "steps", "[I", true)
def tyX5 : Nat → FieldType := fun k => match k with
  | 0 => .int
  | _ => .array .int
theorem nmX5 : ∀ a, a < 2 → ∀ b, b < 2 → a ≠ b → (TX5 a).2.1 ≠ (TX5 b).2.1 := by decide +kernel
theorem tyX5_ok : ∀ k, k < 2 → parseFieldDescriptor (TX5 k).2.2.1 = some (tyX5 k) := by decide +kernel
abbrev cX5_init : ByteArray := prog_7_method_1_code
def yX5_init : MethodName := ⟨RX5, "<init>", "(I[I)V"⟩
abbrev cX5_step : ByteArray := prog_7_method_2_code
def yX5_step : MethodName := ⟨RX5, "step", "(III)I"⟩
abbrev cX5_isHeeded : ByteArray := prog_7_method_3_code
def yX5_isHeeded : MethodName := ⟨RX5, "isHeeded", "(IIIII)Z"⟩
abbrev cX5_factOf : ByteArray := prog_7_method_4_code
def yX5_factOf : MethodName := ⟨RX5, "factOf", "(IIIIII)I"⟩
abbrev cX5_holds : ByteArray := prog_7_method_5_code
def yX5_holds : MethodName := ⟨RX5, "holds", "(III)Z"⟩
def RX6 : String := "MilestoneMaids$WayReader"
def TX6 : u_T := fun k => match k with
  | 0 => ("MilestoneMaids$WayReader", "length", "I", false)
  | 1 => ("MilestoneMaids$WayReader", "place", "I", false)
  | 2 => ("MilestoneMaids$WayReader", "signs", "[I", true)
  | 3 => ("MilestoneMaids$WayReader", "isWrong", "Z", false)
  | 4 => ("MilestoneMaids$WayReader", "many", "I", false)
  | 5 => ("MilestoneMaids$WayReader", "steps", "[I", true)
  | _ => ("MilestoneMaids$WayReader", "stepCount", "I", false)
def tyX6 : Nat → FieldType := fun k => match k with
  | 0 => .int
  | 1 => .int
  | 2 => .array .int
  | 3 => .boolean
  | 4 => .int
  | 5 => .array .int
  | _ => .int
theorem nmX6 : ∀ a, a < 7 → ∀ b, b < 7 → a ≠ b → (TX6 a).2.1 ≠ (TX6 b).2.1 := by decide +kernel
theorem tyX6_ok : ∀ k, k < 7 → parseFieldDescriptor (TX6 k).2.2.1 = some (tyX6 k) := by decide +kernel
abbrev cX6_init : ByteArray := prog_8_method_1_code
def yX6_init : MethodName := ⟨RX6, "<init>", "()V"⟩
abbrev cX6_append : ByteArray := prog_8_method_2_code
def yX6_append : MethodName := ⟨RX6, "append", "(I)I"⟩
abbrev cX6_newWay : ByteArray := prog_8_method_3_code
def yX6_newWay : MethodName := ⟨RX6, "newWay", "()LMilestoneMaids$Way;"⟩
abbrev cX6_readAll : ByteArray := prog_8_method_4_code
def yX6_readAll : MethodName := ⟨RX6, "readAll", "()Z"⟩
abbrev cX6_readClause : ByteArray := prog_8_method_5_code
def yX6_readClause : MethodName := ⟨RX6, "readClause", "()V"⟩
abbrev cX6_readEither : ByteArray := prog_8_method_6_code
def yX6_readEither : MethodName := ⟨RX6, "readEither", "(I)V"⟩
abbrev cX6_readBoth : ByteArray := prog_8_method_7_code
def yX6_readBoth : MethodName := ⟨RX6, "readBoth", "(I)V"⟩
abbrev cX6_readPart : ByteArray := prog_8_method_8_code
def yX6_readPart : MethodName := ⟨RX6, "readPart", "(I)V"⟩
abbrev cX6_readNot : ByteArray := prog_8_method_9_code
def yX6_readNot : MethodName := ⟨RX6, "readNot", "(I)V"⟩
abbrev cX6_readBracket : ByteArray := prog_8_method_10_code
def yX6_readBracket : MethodName := ⟨RX6, "readBracket", "(I)V"⟩
abbrev cX6_readTest : ByteArray := prog_8_method_11_code
def yX6_readTest : MethodName := ⟨RX6, "readTest", "()V"⟩
abbrev cX6_readNumber : ByteArray := prog_8_method_12_code
def yX6_readNumber : MethodName := ⟨RX6, "readNumber", "()I"⟩
abbrev cX6_readWord : ByteArray := prog_8_method_13_code
def yX6_readWord : MethodName := ⟨RX6, "readWord", "(Ljava/lang/String;)V"⟩
abbrev cX6_readOneOf : ByteArray := prog_8_method_14_code
def yX6_readOneOf : MethodName := ⟨RX6, "readOneOf", "(Ljava/lang/String;)I"⟩
abbrev cX6_readSign : ByteArray := prog_8_method_15_code
def yX6_readSign : MethodName := ⟨RX6, "readSign", "(I)V"⟩
abbrev cX6_next : ByteArray := prog_8_method_16_code
def yX6_next : MethodName := ⟨RX6, "next", "()I"⟩
abbrev cX6_addStep : ByteArray := prog_8_method_17_code
def yX6_addStep : MethodName := ⟨RX6, "addStep", "(III)V"⟩
def RX7 : String := "MilestoneMaids"
def TX7 : u_T := fun k => match k with
  | 0 => ("MilestoneMaids", "now", "LMilestoneMaids$Stage;", true)
  | 1 => ("MilestoneMaids", "saved", "LMilestoneMaids$Stage;", true)
  | 2 => ("MilestoneMaids", "trial", "LMilestoneMaids$Stage;", true)
  | 3 => ("MilestoneMaids", "hasImage", "Z", false)
  | 4 => ("MilestoneMaids", "reader", "LMilestoneMaids$WayReader;", true)
  | 5 => ("MilestoneMaids", "ways", "I", false)
  | 6 => ("MilestoneMaids", "orders", "LMilestoneMaids$OrderSearch;", true)
  | 7 => ("MilestoneMaids", "actor", "LMilestoneMaids$Actor;", true)
  | _ => ("MilestoneMaids", "tapes", "[LMilestoneMaids$Tape;", true)
def tyX7 : Nat → FieldType := fun k => match k with
  | 0 => .object "MilestoneMaids$Stage"
  | 1 => .object "MilestoneMaids$Stage"
  | 2 => .object "MilestoneMaids$Stage"
  | 3 => .boolean
  | 4 => .object "MilestoneMaids$WayReader"
  | 5 => .int
  | 6 => .object "MilestoneMaids$OrderSearch"
  | 7 => .object "MilestoneMaids$Actor"
  | _ => .array (.object "MilestoneMaids$Tape")
theorem nmX7 : ∀ a, a < 9 → ∀ b, b < 9 → a ≠ b → (TX7 a).2.1 ≠ (TX7 b).2.1 := by decide +kernel
theorem tyX7_ok : ∀ k, k < 9 → parseFieldDescriptor (TX7 k).2.2.1 = some (tyX7 k) := by decide +kernel
abbrev cX7_init : ByteArray := prog_1_method_1_code
def yX7_init : MethodName := ⟨RX7, "<init>", "()V"⟩
abbrev cX7_maid : ByteArray := prog_1_method_2_code
def yX7_maid : MethodName := ⟨RX7, "maid", "(II)I"⟩
abbrev cX7_pilgrim : ByteArray := prog_1_method_3_code
def yX7_pilgrim : MethodName := ⟨RX7, "pilgrim", "(I)I"⟩
abbrev cX7_of : ByteArray := prog_1_method_4_code
def yX7_of : MethodName := ⟨RX7, "of", "(II)I"⟩
abbrev cX7_at : ByteArray := prog_1_method_5_code
def yX7_at : MethodName := ⟨RX7, "at", "(II)I"⟩
abbrev cX7_passes : ByteArray := prog_1_method_6_code
def yX7_passes : MethodName := ⟨RX7, "passes", "(III)I"⟩
abbrev cX7_mark : ByteArray := prog_1_method_7_code
def yX7_mark : MethodName := ⟨RX7, "mark", "(II)I"⟩
abbrev cX7_start : ByteArray := prog_1_method_8_code
def yX7_start : MethodName := ⟨RX7, "start", "(I)I"⟩
abbrev cX7_lamp : ByteArray := prog_1_method_9_code
def yX7_lamp : MethodName := ⟨RX7, "lamp", "(IZ)I"⟩
abbrev cX7_row : ByteArray := prog_1_method_10_code
def yX7_row : MethodName := ⟨RX7, "row", "(III)I"⟩
abbrev cX7_feed : ByteArray := prog_1_method_11_code
def yX7_feed : MethodName := ⟨RX7, "feed", "(I)I"⟩
abbrev cX7_way : ByteArray := prog_1_method_12_code
def yX7_way : MethodName := ⟨RX7, "way", "()I"⟩
abbrev cX7_told : ByteArray := prog_1_method_13_code
def yX7_told : MethodName := ⟨RX7, "told", "(I)I"⟩
abbrev cX7_pass : ByteArray := prog_1_method_14_code
def yX7_pass : MethodName := ⟨RX7, "pass", "(I)I"⟩
abbrev cX7_on : ByteArray := prog_1_method_15_code
def yX7_on : MethodName := ⟨RX7, "on", "(II)I"⟩
abbrev cX7_through : ByteArray := prog_1_method_16_code
def yX7_through : MethodName := ⟨RX7, "through", "(I)I"⟩
abbrev cX7_before : ByteArray := prog_1_method_17_code
def yX7_before : MethodName := ⟨RX7, "before", "(II)I"⟩
abbrev cX7_order : ByteArray := prog_1_method_18_code
def yX7_order : MethodName := ⟨RX7, "order", "(III)I"⟩
abbrev cX7_doused : ByteArray := prog_1_method_19_code
def yX7_doused : MethodName := ⟨RX7, "doused", "(II)I"⟩
abbrev cX7_see : ByteArray := prog_1_method_20_code
def yX7_see : MethodName := ⟨RX7, "see", "(II)I"⟩
abbrev cX7_can : ByteArray := prog_1_method_21_code
def yX7_can : MethodName := ⟨RX7, "can", "(II)I"⟩
abbrev cX7_who : ByteArray := prog_1_method_22_code
def yX7_who : MethodName := ⟨RX7, "who", "()I"⟩
abbrev cX7_when : ByteArray := prog_1_method_23_code
def yX7_when : MethodName := ⟨RX7, "when", "(II)I"⟩
abbrev cX7_odds : ByteArray := prog_1_method_24_code
def yX7_odds : MethodName := ⟨RX7, "odds", "(III)J"⟩
abbrev cX7_mean : ByteArray := prog_1_method_25_code
def yX7_mean : MethodName := ⟨RX7, "mean", "(I)J"⟩
abbrev cX7_plan : ByteArray := prog_1_method_26_code
def yX7_plan : MethodName := ⟨RX7, "plan", "(II)I"⟩
abbrev cX7_ends : ByteArray := prog_1_method_27_code
def yX7_ends : MethodName := ⟨RX7, "ends", "(I)I"⟩
abbrev cX7_book : ByteArray := prog_1_method_28_code
def yX7_book : MethodName := ⟨RX7, "book", "(II)I"⟩
abbrev cX7_looked : ByteArray := prog_1_method_29_code
def yX7_looked : MethodName := ⟨RX7, "looked", "()I"⟩
abbrev cX7_judge : ByteArray := prog_1_method_30_code
def yX7_judge : MethodName := ⟨RX7, "judge", "(II)I"⟩
abbrev cX7_image : ByteArray := prog_1_method_31_code
def yX7_image : MethodName := ⟨RX7, "image", "()I"⟩
abbrev cX7_undo : ByteArray := prog_1_method_32_code
def yX7_undo : MethodName := ⟨RX7, "undo", "()I"⟩
abbrev cX7_act : ByteArray := prog_1_method_33_code
def yX7_act : MethodName := ⟨RX7, "act", "(III)I"⟩
abbrev cX7_trace : ByteArray := prog_1_method_34_code
def yX7_trace : MethodName := ⟨RX7, "trace", "(I)I"⟩
abbrev cX7_taken : ByteArray := prog_1_method_35_code
def yX7_taken : MethodName := ⟨RX7, "taken", "(II)I"⟩
abbrev cX7_count : ByteArray := prog_1_method_36_code
def yX7_count : MethodName := ⟨RX7, "count", "(I)I"⟩
abbrev cX7_tape : ByteArray := prog_1_method_37_code
def yX7_tape : MethodName := ⟨RX7, "tape", "(III)I"⟩
abbrev cX7_item : ByteArray := prog_1_method_38_code
def yX7_item : MethodName := ⟨RX7, "item", "(IIJ)I"⟩
abbrev cX7_read : ByteArray := prog_1_method_39_code
def yX7_read : MethodName := ⟨RX7, "read", "(II)J"⟩
abbrev cX7_shift : ByteArray := prog_1_method_40_code
def yX7_shift : MethodName := ⟨RX7, "shift", "(IIIII)I"⟩
abbrev cX7_isKind : ByteArray := prog_1_method_41_code
def yX7_isKind : MethodName := ⟨RX7, "isKind", "(I)Z"⟩
abbrev cX7_isNumber : ByteArray := prog_1_method_42_code
def yX7_isNumber : MethodName := ⟨RX7, "isNumber", "(I)Z"⟩
abbrev cX7_isMarks : ByteArray := prog_1_method_43_code
def yX7_isMarks : MethodName := ⟨RX7, "isMarks", "(I)Z"⟩
abbrev cX7_isFirstOrSecond : ByteArray := prog_1_method_44_code
def yX7_isFirstOrSecond : MethodName := ⟨RX7, "isFirstOrSecond", "(I)Z"⟩
abbrev cX7_isTape : ByteArray := prog_1_method_45_code
def yX7_isTape : MethodName := ⟨RX7, "isTape", "(I)Z"⟩
abbrev cX7_isMaid : ByteArray := prog_1_method_46_code
def yX7_isMaid : MethodName := ⟨RX7, "isMaid", "(I)Z"⟩
abbrev cX7_isPilgrim : ByteArray := prog_1_method_47_code
def yX7_isPilgrim : MethodName := ⟨RX7, "isPilgrim", "(I)Z"⟩
abbrev cX7_isPlanned : ByteArray := prog_1_method_48_code
def yX7_isPlanned : MethodName := ⟨RX7, "isPlanned", "(II)Z"⟩
abbrev cX7_isUnder : ByteArray := prog_1_method_49_code
def yX7_isUnder : MethodName := ⟨RX7, "isUnder", "(II)Z"⟩
abbrev cX7_comes : ByteArray := prog_1_method_50_code
def yX7_comes : MethodName := ⟨RX7, "comes", "(I)I"⟩
abbrev cX7_judged : ByteArray := prog_1_method_51_code
def yX7_judged : MethodName := ⟨RX7, "judged", "(LMilestoneMaids$Tape;I)I"⟩
abbrev cX7_lowestTerms : ByteArray := prog_1_method_52_code
def yX7_lowestTerms : MethodName := ⟨RX7, "lowestTerms", "(III)J"⟩
def RX8 : String := "MilestoneMaidsModel"
def TX8 : u_T := fun k => match k with
  | 0 => ("MilestoneMaidsModel", "maids", "I", false)
  | 1 => ("MilestoneMaidsModel", "out", "I", false)
  | 2 => ("MilestoneMaidsModel", "pilgrims", "I", false)
  | 3 => ("MilestoneMaidsModel", "back", "I", false)
  | 4 => ("MilestoneMaidsModel", "days", "I", false)
  | 5 => ("MilestoneMaidsModel", "kind", "[I", true)
  | 6 => ("MilestoneMaidsModel", "v", "[I", true)
  | 7 => ("MilestoneMaidsModel", "rows", "[I", true)
  | 8 => ("MilestoneMaidsModel", "marks0", "[I", true)
  | 9 => ("MilestoneMaidsModel", "spot", "[I", true)
  | 10 => ("MilestoneMaidsModel", "ways", "I", false)
  | 11 => ("MilestoneMaidsModel", "the", "I", false)
  | 12 => ("MilestoneMaidsModel", "fed", "I", false)
  | 13 => ("MilestoneMaidsModel", "at", "I", false)
  | 14 => ("MilestoneMaidsModel", "digits", "I", false)
  | 15 => ("MilestoneMaidsModel", "text", "[I", true)
  | 16 => ("MilestoneMaidsModel", "clauses", "[I", true)
  | 17 => ("MilestoneMaidsModel", "word", "[I", true)
  | 18 => ("MilestoneMaidsModel", "number", "[I", true)
  | 19 => ("MilestoneMaidsModel", "from", "[I", true)
  | 20 => ("MilestoneMaidsModel", "to", "[I", true)
  | 21 => ("MilestoneMaidsModel", "sign", "[I", true)
  | 22 => ("MilestoneMaidsModel", "waits", "[I", true)
  | 23 => ("MilestoneMaidsModel", "signs", "I", false)
  | 24 => ("MilestoneMaidsModel", "waiting", "I", false)
  | 25 => ("MilestoneMaidsModel", "open", "I", false)
  | 26 => ("MilestoneMaidsModel", "letters", "[I", true)
  | 27 => ("MilestoneMaidsModel", "pile", "[Z", true)
  | 28 => ("MilestoneMaidsModel", "keptOut", "I", false)
  | 29 => ("MilestoneMaidsModel", "keptBack", "I", false)
  | 30 => ("MilestoneMaidsModel", "keptDays", "I", false)
  | 31 => ("MilestoneMaidsModel", "keptMarks", "[I", true)
  | 32 => ("MilestoneMaidsModel", "keptSpot", "[I", true)
  | 33 => ("MilestoneMaidsModel", "laid", "[I", true)
  | 34 => ("MilestoneMaidsModel", "turn", "[I", true)
  | 35 => ("MilestoneMaidsModel", "bestTurn", "[I", true)
  | 36 => ("MilestoneMaidsModel", "seen", "I", false)
  | 37 => ("MilestoneMaidsModel", "seenFrom", "[I", true)
  | 38 => ("MilestoneMaidsModel", "seenTo", "[I", true)
  | 39 => ("MilestoneMaidsModel", "plans", "I", false)
  | 40 => ("MilestoneMaidsModel", "books", "I", false)
  | 41 => ("MilestoneMaidsModel", "planWhat", "[I", true)
  | 42 => ("MilestoneMaidsModel", "planNumber", "[I", true)
  | 43 => ("MilestoneMaidsModel", "bookWho", "[I", true)
  | 44 => ("MilestoneMaidsModel", "bookMarks", "[I", true)
  | 45 => ("MilestoneMaidsModel", "hasImage", "Z", false)
  | 46 => ("MilestoneMaidsModel", "imageThe", "I", false)
  | 47 => ("MilestoneMaidsModel", "imageMaids", "I", false)
  | 48 => ("MilestoneMaidsModel", "imageOut", "I", false)
  | 49 => ("MilestoneMaidsModel", "imagePilgrims", "I", false)
  | 50 => ("MilestoneMaidsModel", "imageBack", "I", false)
  | 51 => ("MilestoneMaidsModel", "imageDays", "I", false)
  | 52 => ("MilestoneMaidsModel", "imageSeen", "I", false)
  | 53 => ("MilestoneMaidsModel", "imagePlans", "I", false)
  | 54 => ("MilestoneMaidsModel", "imageBooks", "I", false)
  | 55 => ("MilestoneMaidsModel", "imageKind", "[I", true)
  | 56 => ("MilestoneMaidsModel", "imageV", "[I", true)
  | 57 => ("MilestoneMaidsModel", "imageRows", "[I", true)
  | 58 => ("MilestoneMaidsModel", "imageMarks", "[I", true)
  | 59 => ("MilestoneMaidsModel", "imageSpot", "[I", true)
  | 60 => ("MilestoneMaidsModel", "imageFrom", "[I", true)
  | 61 => ("MilestoneMaidsModel", "imageTo", "[I", true)
  | 62 => ("MilestoneMaidsModel", "imageWhat", "[I", true)
  | 63 => ("MilestoneMaidsModel", "imageNumber", "[I", true)
  | 64 => ("MilestoneMaidsModel", "imageBookWho", "[I", true)
  | 65 => ("MilestoneMaidsModel", "imageBookMarks", "[I", true)
  | 66 => ("MilestoneMaidsModel", "ran", "I", false)
  | 67 => ("MilestoneMaidsModel", "bodies", "[I", true)
  | 68 => ("MilestoneMaidsModel", "sort", "[I", true)
  | 69 => ("MilestoneMaidsModel", "length", "[I", true)
  | 70 => ("MilestoneMaidsModel", "item", "[J", true)
  | _ => ("MilestoneMaidsModel", "aside", "[J", true)
def tyX8 : Nat → FieldType := fun k => match k with
  | 0 => .int
  | 1 => .int
  | 2 => .int
  | 3 => .int
  | 4 => .int
  | 5 => .array .int
  | 6 => .array .int
  | 7 => .array .int
  | 8 => .array .int
  | 9 => .array .int
  | 10 => .int
  | 11 => .int
  | 12 => .int
  | 13 => .int
  | 14 => .int
  | 15 => .array .int
  | 16 => .array .int
  | 17 => .array .int
  | 18 => .array .int
  | 19 => .array .int
  | 20 => .array .int
  | 21 => .array .int
  | 22 => .array .int
  | 23 => .int
  | 24 => .int
  | 25 => .int
  | 26 => .array .int
  | 27 => .array .boolean
  | 28 => .int
  | 29 => .int
  | 30 => .int
  | 31 => .array .int
  | 32 => .array .int
  | 33 => .array .int
  | 34 => .array .int
  | 35 => .array .int
  | 36 => .int
  | 37 => .array .int
  | 38 => .array .int
  | 39 => .int
  | 40 => .int
  | 41 => .array .int
  | 42 => .array .int
  | 43 => .array .int
  | 44 => .array .int
  | 45 => .boolean
  | 46 => .int
  | 47 => .int
  | 48 => .int
  | 49 => .int
  | 50 => .int
  | 51 => .int
  | 52 => .int
  | 53 => .int
  | 54 => .int
  | 55 => .array .int
  | 56 => .array .int
  | 57 => .array .int
  | 58 => .array .int
  | 59 => .array .int
  | 60 => .array .int
  | 61 => .array .int
  | 62 => .array .int
  | 63 => .array .int
  | 64 => .array .int
  | 65 => .array .int
  | 66 => .int
  | 67 => .array .int
  | 68 => .array .int
  | 69 => .array .int
  | 70 => .array .long
  | _ => .array .long
theorem nmX8 : ∀ a, a < 72 → ∀ b, b < 72 → a ≠ b → (TX8 a).2.1 ≠ (TX8 b).2.1 := by decide +kernel
theorem tyX8_ok : ∀ k, k < 72 → parseFieldDescriptor (TX8 k).2.2.1 = some (tyX8 k) := by decide +kernel
abbrev cX8_init : ByteArray := prog_10_method_1_code
def yX8_init : MethodName := ⟨RX8, "<init>", "()V"⟩
abbrev cX8_in : ByteArray := prog_10_method_2_code
def yX8_in : MethodName := ⟨RX8, "in", "(III)Z"⟩
abbrev cX8_has : ByteArray := prog_10_method_3_code
def yX8_has : MethodName := ⟨RX8, "has", "(II)Z"⟩
abbrev cX8_bits : ByteArray := prog_10_method_4_code
def yX8_bits : MethodName := ⟨RX8, "bits", "(I)I"⟩
abbrev cX8_isMaid : ByteArray := prog_10_method_5_code
def yX8_isMaid : MethodName := ⟨RX8, "isMaid", "(I)Z"⟩
abbrev cX8_isPilgrim : ByteArray := prog_10_method_6_code
def yX8_isPilgrim : MethodName := ⟨RX8, "isPilgrim", "(I)Z"⟩
abbrev cX8_isMarks : ByteArray := prog_10_method_7_code
def yX8_isMarks : MethodName := ⟨RX8, "isMarks", "(I)Z"⟩
abbrev cX8_isDays : ByteArray := prog_10_method_8_code
def yX8_isDays : MethodName := ⟨RX8, "isDays", "(I)Z"⟩
abbrev cX8_maid : ByteArray := prog_10_method_9_code
def yX8_maid : MethodName := ⟨RX8, "maid", "(II)I"⟩
abbrev cX8_turnsBack : ByteArray := prog_10_method_10_code
def yX8_turnsBack : MethodName := ⟨RX8, "turnsBack", "(IZ)V"⟩
abbrev cX8_pilgrim : ByteArray := prog_10_method_11_code
def yX8_pilgrim : MethodName := ⟨RX8, "pilgrim", "(I)I"⟩
abbrev cX8_mark : ByteArray := prog_10_method_12_code
def yX8_mark : MethodName := ⟨RX8, "mark", "(II)I"⟩
abbrev cX8_start : ByteArray := prog_10_method_13_code
def yX8_start : MethodName := ⟨RX8, "start", "(I)I"⟩
abbrev cX8_douses : ByteArray := prog_10_method_14_code
def yX8_douses : MethodName := ⟨RX8, "douses", "(IZ)V"⟩
abbrev cX8_lamp : ByteArray := prog_10_method_15_code
def yX8_lamp : MethodName := ⟨RX8, "lamp", "(IZ)I"⟩
abbrev cX8_row : ByteArray := prog_10_method_16_code
def yX8_row : MethodName := ⟨RX8, "row", "(III)I"⟩
abbrev cX8_feed : ByteArray := prog_10_method_17_code
def yX8_feed : MethodName := ⟨RX8, "feed", "(I)I"⟩
abbrev cX8_next : ByteArray := prog_10_method_18_code
def yX8_next : MethodName := ⟨RX8, "next", "()I"⟩
abbrev cX8_takes : ByteArray := prog_10_method_19_code
def yX8_takes : MethodName := ⟨RX8, "takes", "(I)Z"⟩
abbrev cX8_takesWord : ByteArray := prog_10_method_20_code
def yX8_takesWord : MethodName := ⟨RX8, "takesWord", "(II)Z"⟩
abbrev cX8_isDigit : ByteArray := prog_10_method_21_code
def yX8_isDigit : MethodName := ⟨RX8, "isDigit", "()Z"⟩
abbrev cX8_takesNumber : ByteArray := prog_10_method_22_code
def yX8_takesNumber : MethodName := ⟨RX8, "takesNumber", "()Z"⟩
abbrev cX8_emits : ByteArray := prog_10_method_23_code
def yX8_emits : MethodName := ⟨RX8, "emits", "(I)V"⟩
abbrev cX8_whole : ByteArray := prog_10_method_24_code
def yX8_whole : MethodName := ⟨RX8, "whole", "()V"⟩
abbrev cX8_settle : ByteArray := prog_10_method_25_code
def yX8_settle : MethodName := ⟨RX8, "settle", "(I)V"⟩
abbrev cX8_place : ByteArray := prog_10_method_26_code
def yX8_place : MethodName := ⟨RX8, "place", "(I)I"⟩
abbrev cX8_takesTest : ByteArray := prog_10_method_27_code
def yX8_takesTest : MethodName := ⟨RX8, "takesTest", "()Z"⟩
abbrev cX8_takesE : ByteArray := prog_10_method_28_code
def yX8_takesE : MethodName := ⟨RX8, "takesE", "(I)Z"⟩
abbrev cX8_takesHead : ByteArray := prog_10_method_29_code
def yX8_takesHead : MethodName := ⟨RX8, "takesHead", "(I)Z"⟩
abbrev cX8_takesClause : ByteArray := prog_10_method_30_code
def yX8_takesClause : MethodName := ⟨RX8, "takesClause", "(I)Z"⟩
abbrev cX8_goesText : ByteArray := prog_10_method_31_code
def yX8_goesText : MethodName := ⟨RX8, "goesText", "(I)Z"⟩
abbrev cX8_way : ByteArray := prog_10_method_32_code
def yX8_way : MethodName := ⟨RX8, "way", "()I"⟩
abbrev cX8_begin : ByteArray := prog_10_method_33_code
def yX8_begin : MethodName := ⟨RX8, "begin", "()I"⟩
abbrev cX8_behind : ByteArray := prog_10_method_34_code
def yX8_behind : MethodName := ⟨RX8, "behind", "()I"⟩
abbrev cX8_many : ByteArray := prog_10_method_35_code
def yX8_many : MethodName := ⟨RX8, "many", "()I"⟩
abbrev cX8_factOf : ByteArray := prog_10_method_36_code
def yX8_factOf : MethodName := ⟨RX8, "factOf", "(III)I"⟩
abbrev cX8_holds : ByteArray := prog_10_method_37_code
def yX8_holds : MethodName := ⟨RX8, "holds", "(III)Z"⟩
abbrev cX8_isHeeded : ByteArray := prog_10_method_38_code
def yX8_isHeeded : MethodName := ⟨RX8, "isHeeded", "(II)Z"⟩
abbrev cX8_turned : ByteArray := prog_10_method_39_code
def yX8_turned : MethodName := ⟨RX8, "turned", "(II)I"⟩
abbrev cX8_wiped : ByteArray := prog_10_method_40_code
def yX8_wiped : MethodName := ⟨RX8, "wiped", "(I)I"⟩
abbrev cX8_says : ByteArray := prog_10_method_41_code
def yX8_says : MethodName := ⟨RX8, "says", "(II)I"⟩
abbrev cX8_passesOn : ByteArray := prog_10_method_42_code
def yX8_passesOn : MethodName := ⟨RX8, "passesOn", "(II)I"⟩
abbrev cX8_otherwise : ByteArray := prog_10_method_43_code
def yX8_otherwise : MethodName := ⟨RX8, "otherwise", "(I)I"⟩
abbrev cX8_of : ByteArray := prog_10_method_44_code
def yX8_of : MethodName := ⟨RX8, "of", "(II)I"⟩
abbrev cX8_passes : ByteArray := prog_10_method_45_code
def yX8_passes : MethodName := ⟨RX8, "passes", "(III)I"⟩
abbrev cX8_isIn : ByteArray := prog_10_method_46_code
def yX8_isIn : MethodName := ⟨RX8, "isIn", "(I)Z"⟩
abbrev cX8_inMany : ByteArray := prog_10_method_47_code
def yX8_inMany : MethodName := ⟨RX8, "inMany", "()I"⟩
abbrev cX8_backMany : ByteArray := prog_10_method_48_code
def yX8_backMany : MethodName := ⟨RX8, "backMany", "()I"⟩
abbrev cX8_goDay : ByteArray := prog_10_method_49_code
def yX8_goDay : MethodName := ⟨RX8, "goDay", "()V"⟩
abbrev cX8_goDays : ByteArray := prog_10_method_50_code
def yX8_goDays : MethodName := ⟨RX8, "goDays", "(I)V"⟩
abbrev cX8_pass : ByteArray := prog_10_method_51_code
def yX8_pass : MethodName := ⟨RX8, "pass", "(I)I"⟩
abbrev cX8_save : ByteArray := prog_10_method_52_code
def yX8_save : MethodName := ⟨RX8, "save", "()V"⟩
abbrev cX8_putBack : ByteArray := prog_10_method_53_code
def yX8_putBack : MethodName := ⟨RX8, "putBack", "()V"⟩
abbrev cX8_comes : ByteArray := prog_10_method_54_code
def yX8_comes : MethodName := ⟨RX8, "comes", "(I)I"⟩
abbrev cX8_at : ByteArray := prog_10_method_55_code
def yX8_at : MethodName := ⟨RX8, "at", "(II)I"⟩
abbrev cX8_mostOf : ByteArray := prog_10_method_56_code
def yX8_mostOf : MethodName := ⟨RX8, "mostOf", "()I"⟩
abbrev cX8_told : ByteArray := prog_10_method_57_code
def yX8_told : MethodName := ⟨RX8, "told", "(I)I"⟩
abbrev cX8_on : ByteArray := prog_10_method_58_code
def yX8_on : MethodName := ⟨RX8, "on", "(II)I"⟩
abbrev cX8_throughOf : ByteArray := prog_10_method_59_code
def yX8_throughOf : MethodName := ⟨RX8, "throughOf", "(I)I"⟩
abbrev cX8_through : ByteArray := prog_10_method_60_code
def yX8_through : MethodName := ⟨RX8, "through", "(I)I"⟩
abbrev cX8_before : ByteArray := prog_10_method_61_code
def yX8_before : MethodName := ⟨RX8, "before", "(II)I"⟩
abbrev cX8_layTurn : ByteArray := prog_10_method_62_code
def yX8_layTurn : MethodName := ⟨RX8, "layTurn", "(I)Z"⟩
abbrev cX8_order : ByteArray := prog_10_method_63_code
def yX8_order : MethodName := ⟨RX8, "order", "(III)I"⟩
abbrev cX8_doused : ByteArray := prog_10_method_64_code
def yX8_doused : MethodName := ⟨RX8, "doused", "(II)I"⟩
abbrev cX8_see : ByteArray := prog_10_method_65_code
def yX8_see : MethodName := ⟨RX8, "see", "(II)I"⟩
abbrev cX8_isSeen : ByteArray := prog_10_method_66_code
def yX8_isSeen : MethodName := ⟨RX8, "isSeen", "(I)Z"⟩
abbrev cX8_can : ByteArray := prog_10_method_67_code
def yX8_can : MethodName := ⟨RX8, "can", "(II)I"⟩
abbrev cX8_who : ByteArray := prog_10_method_68_code
def yX8_who : MethodName := ⟨RX8, "who", "()I"⟩
abbrev cX8_when : ByteArray := prog_10_method_69_code
def yX8_when : MethodName := ⟨RX8, "when", "(II)I"⟩
abbrev cX8_divisor : ByteArray := prog_10_method_70_code
def yX8_divisor : MethodName := ⟨RX8, "divisor", "(II)I"⟩
abbrev cX8_lowest : ByteArray := prog_10_method_71_code
def yX8_lowest : MethodName := ⟨RX8, "lowest", "(III)J"⟩
abbrev cX8_odds : ByteArray := prog_10_method_72_code
def yX8_odds : MethodName := ⟨RX8, "odds", "(III)J"⟩
abbrev cX8_mean : ByteArray := prog_10_method_73_code
def yX8_mean : MethodName := ⟨RX8, "mean", "(I)J"⟩
abbrev cX8_plan : ByteArray := prog_10_method_74_code
def yX8_plan : MethodName := ⟨RX8, "plan", "(II)I"⟩
abbrev cX8_goPlan : ByteArray := prog_10_method_75_code
def yX8_goPlan : MethodName := ⟨RX8, "goPlan", "(II)V"⟩
abbrev cX8_ends : ByteArray := prog_10_method_76_code
def yX8_ends : MethodName := ⟨RX8, "ends", "(I)I"⟩
abbrev cX8_book : ByteArray := prog_10_method_77_code
def yX8_book : MethodName := ⟨RX8, "book", "(II)I"⟩
abbrev cX8_looked : ByteArray := prog_10_method_78_code
def yX8_looked : MethodName := ⟨RX8, "looked", "()I"⟩
abbrev cX8_judge : ByteArray := prog_10_method_79_code
def yX8_judge : MethodName := ⟨RX8, "judge", "(II)I"⟩
abbrev cX8_image : ByteArray := prog_10_method_80_code
def yX8_image : MethodName := ⟨RX8, "image", "()I"⟩
abbrev cX8_undo : ByteArray := prog_10_method_81_code
def yX8_undo : MethodName := ⟨RX8, "undo", "()I"⟩
abbrev cX8_body : ByteArray := prog_10_method_82_code
def yX8_body : MethodName := ⟨RX8, "body", "(I)V"⟩
abbrev cX8_maidLooks : ByteArray := prog_10_method_83_code
def yX8_maidLooks : MethodName := ⟨RX8, "maidLooks", "(II)I"⟩
abbrev cX8_looksAct : ByteArray := prog_10_method_84_code
def yX8_looksAct : MethodName := ⟨RX8, "looksAct", "(II)I"⟩
abbrev cX8_maidSays : ByteArray := prog_10_method_85_code
def yX8_maidSays : MethodName := ⟨RX8, "maidSays", "(II)I"⟩
abbrev cX8_setterSays : ByteArray := prog_10_method_86_code
def yX8_setterSays : MethodName := ⟨RX8, "setterSays", "(II)I"⟩
abbrev cX8_saysAct : ByteArray := prog_10_method_87_code
def yX8_saysAct : MethodName := ⟨RX8, "saysAct", "(II)I"⟩
abbrev cX8_maidTells : ByteArray := prog_10_method_88_code
def yX8_maidTells : MethodName := ⟨RX8, "maidTells", "(II)I"⟩
abbrev cX8_tellsAct : ByteArray := prog_10_method_89_code
def yX8_tellsAct : MethodName := ⟨RX8, "tellsAct", "(II)I"⟩
abbrev cX8_act : ByteArray := prog_10_method_90_code
def yX8_act : MethodName := ⟨RX8, "act", "(III)I"⟩
abbrev cX8_trace : ByteArray := prog_10_method_91_code
def yX8_trace : MethodName := ⟨RX8, "trace", "(I)I"⟩
abbrev cX8_taken : ByteArray := prog_10_method_92_code
def yX8_taken : MethodName := ⟨RX8, "taken", "(II)I"⟩
abbrev cX8_count : ByteArray := prog_10_method_93_code
def yX8_count : MethodName := ⟨RX8, "count", "(I)I"⟩
abbrev cX8_isTape : ByteArray := prog_10_method_94_code
def yX8_isTape : MethodName := ⟨RX8, "isTape", "(I)Z"⟩
abbrev cX8_tape : ByteArray := prog_10_method_95_code
def yX8_tape : MethodName := ⟨RX8, "tape", "(III)I"⟩
abbrev cX8_narrow : ByteArray := prog_10_method_96_code
def yX8_narrow : MethodName := ⟨RX8, "narrow", "(IJ)J"⟩
abbrev cX8_item : ByteArray := prog_10_method_97_code
def yX8_item : MethodName := ⟨RX8, "item", "(IIJ)I"⟩
abbrev cX8_read : ByteArray := prog_10_method_98_code
def yX8_read : MethodName := ⟨RX8, "read", "(II)J"⟩
abbrev cX8_shift : ByteArray := prog_10_method_99_code
def yX8_shift : MethodName := ⟨RX8, "shift", "(IIIII)I"⟩
def RJ6 : String := "java/lang/Integer"
abbrev cJ6_bitCount_0f7a4 : ByteArray := prog_11_method_49_code
def yJ6_bitCount_0f7a4 : MethodName := ⟨RJ6, "bitCount", "(I)I"⟩
def RJ9 : String := "java/lang/Math"
abbrev cJ9_min_7cf53 : ByteArray := prog_12_method_69_code
def yJ9_min_7cf53 : MethodName := ⟨RJ9, "min", "(II)I"⟩
def RJ0 : String := "java/lang/String"
abbrev cJ0_length_8abf5 : ByteArray := prog_13_method_54_code
def yJ0_length_8abf5 : MethodName := ⟨RJ0, "length", "()I"⟩
abbrev cJ0_charAt_5068e : ByteArray := prog_13_method_56_code
def yJ0_charAt_5068e : MethodName := ⟨RJ0, "charAt", "(I)C"⟩
abbrev cJ0_coder_7d493 : ByteArray := prog_13_method_152_code
def yJ0_coder_7d493 : MethodName := ⟨RJ0, "coder", "()B"⟩
abbrev cJ0_isLatin1_aae02 : ByteArray := prog_13_method_154_code
def yJ0_isLatin1_aae02 : MethodName := ⟨RJ0, "isLatin1", "()Z"⟩
abbrev cJ0_checkIndex_df160 : ByteArray := prog_13_method_155_code
def yJ0_checkIndex_df160 : MethodName := ⟨RJ0, "checkIndex", "(II)V"⟩
def RJ1 : String := "java/lang/StringLatin1"
abbrev cJ1_charAt_3b067 : ByteArray := prog_14_method_2_code
def yJ1_charAt_3b067 : MethodName := ⟨RJ1, "charAt", "([BI)C"⟩
def RJ2 : String := "java/lang/StringUTF16"
abbrev cJ2_getChar_3b067 : ByteArray := prog_15_method_5_code
def yJ2_getChar_3b067 : MethodName := ⟨RJ2, "getChar", "([BI)C"⟩
abbrev cJ2_length_9d52b : ByteArray := prog_15_method_6_code
def yJ2_length_9d52b : MethodName := ⟨RJ2, "length", "([B)I"⟩
abbrev cJ2_charAt_3b067 : ByteArray := prog_15_method_83_code
def yJ2_charAt_3b067 : MethodName := ⟨RJ2, "charAt", "([BI)C"⟩
abbrev cJ2_checkIndex_2214a : ByteArray := prog_15_method_91_code
def yJ2_checkIndex_2214a : MethodName := ⟨RJ2, "checkIndex", "(I[B)V"⟩
def RJ10 : String := "java/lang/System"
def RJ3 : String := "jdk/internal/util/Preconditions"
abbrev cJ3_checkIndex_8e157 : ByteArray := prog_17_method_11_code
def yJ3_checkIndex_8e157 : MethodName := ⟨RJ3, "checkIndex", "(IILjava/util/function/BiFunction;)I"⟩
def RL : String := "MilestoneMaidsLaw"
abbrev cL_law : ByteArray := code
def yL_law : MethodName := ⟨RL, "law", "([I)Z"⟩
abbrev vwCl : List vw_C := [(RX0, TX0, 5), (RX1, TX1, 4), (RX2, TX2, 3), (RX3, TX3, 14), (RX4, TX4, 3), (RX5, TX5, 2), (RX6, TX6, 7), (RX7, TX7, 9), (RX8, TX8, 72)]
theorem inX0 : ∀ w ∈ u_ws RX0 TX0 5, w ∈ lw_tbl := by
  have h : (u_ws RX0 TX0 5) = ([257, 259, 261, 263, 265] : List Nat).filterMap (fun i => lw_tbl[i]?) := by decide +kernel
  intro w hw
  rw [h] at hw
  obtain ⟨i, -, hi⟩ := List.mem_filterMap.mp hw
  exact List.mem_of_getElem? hi
theorem inX1 : ∀ w ∈ u_ws RX1 TX1 4, w ∈ lw_tbl := by
  have h : (u_ws RX1 TX1 4) = ([235, 237, 239, 241] : List Nat).filterMap (fun i => lw_tbl[i]?) := by decide +kernel
  intro w hw
  rw [h] at hw
  obtain ⟨i, -, hi⟩ := List.mem_filterMap.mp hw
  exact List.mem_of_getElem? hi
theorem inX2 : ∀ w ∈ u_ws RX2 TX2 3, w ∈ lw_tbl := by
  have h : (u_ws RX2 TX2 3) = ([128, 130, 132] : List Nat).filterMap (fun i => lw_tbl[i]?) := by decide +kernel
  intro w hw
  rw [h] at hw
  obtain ⟨i, -, hi⟩ := List.mem_filterMap.mp hw
  exact List.mem_of_getElem? hi
theorem inX3 : ∀ w ∈ u_ws RX3 TX3 14, w ∈ lw_tbl := by
  have h : (u_ws RX3 TX3 14) = ([164, 166, 168, 170, 172, 174, 176, 178, 180, 182, 184, 186, 188, 190] : List Nat).filterMap (fun i => lw_tbl[i]?) := by decide +kernel
  intro w hw
  rw [h] at hw
  obtain ⟨i, -, hi⟩ := List.mem_filterMap.mp hw
  exact List.mem_of_getElem? hi
theorem inX4 : ∀ w ∈ u_ws RX4 TX4 3, w ∈ lw_tbl := by
  have h : (u_ws RX4 TX4 3) = ([281, 283, 285] : List Nat).filterMap (fun i => lw_tbl[i]?) := by decide +kernel
  intro w hw
  rw [h] at hw
  obtain ⟨i, -, hi⟩ := List.mem_filterMap.mp hw
  exact List.mem_of_getElem? hi
theorem inX5 : ∀ w ∈ u_ws RX5 TX5 2, w ∈ lw_tbl := by
  have h : (u_ws RX5 TX5 2) = ([607, 609] : List Nat).filterMap (fun i => lw_tbl[i]?) := by decide +kernel
  intro w hw
  rw [h] at hw
  obtain ⟨i, -, hi⟩ := List.mem_filterMap.mp hw
  exact List.mem_of_getElem? hi
theorem inX6 : ∀ w ∈ u_ws RX6 TX6 7, w ∈ lw_tbl := by
  have h : (u_ws RX6 TX6 7) = ([208, 210, 212, 214, 216, 218, 220] : List Nat).filterMap (fun i => lw_tbl[i]?) := by decide +kernel
  intro w hw
  rw [h] at hw
  obtain ⟨i, -, hi⟩ := List.mem_filterMap.mp hw
  exact List.mem_of_getElem? hi
theorem inX7 : ∀ w ∈ u_ws RX7 TX7 9, w ∈ lw_tbl := by
  have h : (u_ws RX7 TX7 9) = ([298, 300, 302, 304, 306, 308, 310, 312, 314] : List Nat).filterMap (fun i => lw_tbl[i]?) := by decide +kernel
  intro w hw
  rw [h] at hw
  obtain ⟨i, -, hi⟩ := List.mem_filterMap.mp hw
  exact List.mem_of_getElem? hi
theorem inX8 : ∀ w ∈ u_ws RX8 TX8 72, w ∈ lw_tbl := by
  have h : (u_ws RX8 TX8 72) = ([943, 945, 947, 949, 951, 953, 955, 957, 959, 961, 963, 965, 967, 969, 971, 973, 975, 977, 979, 981, 983, 985, 987, 989, 991, 993, 995, 997, 999, 1001, 1003, 1005, 1007, 1009, 1011, 1013, 1015, 1017, 1019, 1021, 1023, 1025, 1027, 1029, 1031, 1033, 1035, 1037, 1039, 1041, 1043, 1045, 1047, 1049, 1051, 1053, 1055, 1057, 1059, 1061, 1063, 1065, 1067, 1069, 1071, 1073, 1075, 1077, 1079, 1081, 1083, 1085] : List Nat).filterMap (fun i => lw_tbl[i]?) := by decide +kernel
  intro w hw
  rw [h] at hw
  obtain ⟨i, -, hi⟩ := List.mem_filterMap.mp hw
  exact List.mem_of_getElem? hi
